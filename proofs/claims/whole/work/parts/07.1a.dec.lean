theorem dX0_init_0 : decode cX0_init 0 = .ok (.aload_n 0, 1) := by decide +kernel
theorem dX0_init_1 : decode cX0_init 1 = .ok (.invokespecial 3, 3) := by decide +kernel
theorem dX0_init_4 : decode cX0_init 4 = .ok (.aload_n 0, 1) := by decide +kernel
theorem dX0_init_5 : decode cX0_init 5 = .ok (.iconst 4, 1) := by decide +kernel
theorem dX0_init_6 : decode cX0_init 6 = .ok (.newarray .int, 2) := by decide +kernel
theorem dX0_init_8 : decode cX0_init 8 = .ok (.putfield 9, 3) := by decide +kernel
theorem dX0_init_11 : decode cX0_init 11 = .ok (.aload_n 0, 1) := by decide +kernel
theorem dX0_init_12 : decode cX0_init 12 = .ok (.iconst 4, 1) := by decide +kernel
theorem dX0_init_13 : decode cX0_init 13 = .ok (.newarray .int, 2) := by decide +kernel
theorem dX0_init_15 : decode cX0_init 15 = .ok (.putfield 15, 3) := by decide +kernel
theorem dX0_init_18 : decode cX0_init 18 = .ok (.aload_n 0, 1) := by decide +kernel
theorem dX0_init_19 : decode cX0_init 19 = .ok (.bipush 6, 2) := by decide +kernel
theorem dX0_init_21 : decode cX0_init 21 = .ok (.newarray .int, 2) := by decide +kernel
theorem dX0_init_23 : decode cX0_init 23 = .ok (.putfield 18, 3) := by decide +kernel
theorem dX0_init_26 : decode cX0_init 26 = .ok (.aload_n 0, 1) := by decide +kernel
theorem dX0_init_27 : decode cX0_init 27 = .ok (.bipush 6, 2) := by decide +kernel
theorem dX0_init_29 : decode cX0_init 29 = .ok (.newarray .int, 2) := by decide +kernel
theorem dX0_init_31 : decode cX0_init 31 = .ok (.putfield 21, 3) := by decide +kernel
theorem dX0_init_34 : decode cX0_init 34 = .ok (.aload_n 0, 1) := by decide +kernel
theorem dX0_init_35 : decode cX0_init 35 = .ok (.bipush 6, 2) := by decide +kernel
theorem dX0_init_37 : decode cX0_init 37 = .ok (.newarray .int, 2) := by decide +kernel
theorem dX0_init_39 : decode cX0_init 39 = .ok (.putfield 24, 3) := by decide +kernel
theorem dX0_init_42 : decode cX0_init 42 = .ok (.aload_n 0, 1) := by decide +kernel
theorem dX0_init_43 : decode cX0_init 43 = .ok (.bipush 6, 2) := by decide +kernel
theorem dX0_init_45 : decode cX0_init 45 = .ok (.newarray .int, 2) := by decide +kernel
theorem dX0_init_47 : decode cX0_init 47 = .ok (.putfield 27, 3) := by decide +kernel
theorem dX0_init_50 : decode cX0_init 50 = .ok (.aload_n 0, 1) := by decide +kernel
theorem dX0_init_51 : decode cX0_init 51 = .ok (.bipush 6, 2) := by decide +kernel
theorem dX0_init_53 : decode cX0_init 53 = .ok (.newarray .int, 2) := by decide +kernel
theorem dX0_init_55 : decode cX0_init 55 = .ok (.putfield 30, 3) := by decide +kernel
theorem dX0_init_58 : decode cX0_init 58 = .ok (.aload_n 0, 1) := by decide +kernel
theorem dX0_init_59 : decode cX0_init 59 = .ok (.bipush 6, 2) := by decide +kernel
theorem dX0_init_61 : decode cX0_init 61 = .ok (.newarray .int, 2) := by decide +kernel
theorem dX0_init_63 : decode cX0_init 63 = .ok (.putfield 33, 3) := by decide +kernel
theorem dX0_init_66 : decode cX0_init 66 = .ok (.aload_n 0, 1) := by decide +kernel
theorem dX0_init_67 : decode cX0_init 67 = .ok (.bipush 6, 2) := by decide +kernel
theorem dX0_init_69 : decode cX0_init 69 = .ok (.newarray .int, 2) := by decide +kernel
theorem dX0_init_71 : decode cX0_init 71 = .ok (.putfield 36, 3) := by decide +kernel
theorem dX0_init_74 : decode cX0_init 74 = .ok (.aload_n 0, 1) := by decide +kernel
theorem dX0_init_75 : decode cX0_init 75 = .ok (.iconst 4, 1) := by decide +kernel
theorem dX0_init_76 : decode cX0_init 76 = .ok (.newarray .int, 2) := by decide +kernel
theorem dX0_init_78 : decode cX0_init 78 = .ok (.putfield 39, 3) := by decide +kernel
theorem dX0_init_81 : decode cX0_init 81 = .ok (.aload_n 0, 1) := by decide +kernel
theorem dX0_init_82 : decode cX0_init 82 = .ok (.bipush 8, 2) := by decide +kernel
theorem dX0_init_84 : decode cX0_init 84 = .ok (.newarray .int, 2) := by decide +kernel
theorem dX0_init_86 : decode cX0_init 86 = .ok (.putfield 42, 3) := by decide +kernel
theorem dX0_init_89 : decode cX0_init 89 = .ok (.return_, 1) := by decide +kernel
theorem dX0_restart_0 : decode cX0_restart 0 = .ok (.aload_n 0, 1) := by decide +kernel
theorem dX0_restart_1 : decode cX0_restart 1 = .ok (.iconst 1, 1) := by decide +kernel
theorem dX0_restart_2 : decode cX0_restart 2 = .ok (.putfield 45, 3) := by decide +kernel
theorem dX0_restart_5 : decode cX0_restart 5 = .ok (.aload_n 0, 1) := by decide +kernel
theorem dX0_restart_6 : decode cX0_restart 6 = .ok (.iconst 1, 1) := by decide +kernel
theorem dX0_restart_7 : decode cX0_restart 7 = .ok (.putfield 49, 3) := by decide +kernel
theorem dX0_restart_10 : decode cX0_restart 10 = .ok (.aload_n 0, 1) := by decide +kernel
theorem dX0_restart_11 : decode cX0_restart 11 = .ok (.iconst 0, 1) := by decide +kernel
theorem dX0_restart_12 : decode cX0_restart 12 = .ok (.putfield 52, 3) := by decide +kernel
theorem dX0_restart_15 : decode cX0_restart 15 = .ok (.aload_n 0, 1) := by decide +kernel
theorem dX0_restart_16 : decode cX0_restart 16 = .ok (.iconst 0, 1) := by decide +kernel
theorem dX0_restart_17 : decode cX0_restart 17 = .ok (.putfield 56, 3) := by decide +kernel
theorem dX0_restart_20 : decode cX0_restart 20 = .ok (.aload_n 0, 1) := by decide +kernel
theorem dX0_restart_21 : decode cX0_restart 21 = .ok (.iconst 0, 1) := by decide +kernel
theorem dX0_restart_22 : decode cX0_restart 22 = .ok (.putfield 59, 3) := by decide +kernel
theorem dX0_restart_25 : decode cX0_restart 25 = .ok (.iconst 0, 1) := by decide +kernel
theorem dX0_restart_26 : decode cX0_restart 26 = .ok (.istore_n 1, 1) := by decide +kernel
theorem dX0_restart_27 : decode cX0_restart 27 = .ok (.iload_n 1, 1) := by decide +kernel
theorem dX0_restart_28 : decode cX0_restart 28 = .ok (.iconst 4, 1) := by decide +kernel
theorem dX0_restart_29 : decode cX0_restart 29 = .ok (.if_icmp .ge 31, 3) := by decide +kernel
theorem dX0_restart_32 : decode cX0_restart 32 = .ok (.aload_n 0, 1) := by decide +kernel
theorem dX0_restart_33 : decode cX0_restart 33 = .ok (.getfield 9, 3) := by decide +kernel
theorem dX0_restart_36 : decode cX0_restart 36 = .ok (.iload_n 1, 1) := by decide +kernel
theorem dX0_restart_37 : decode cX0_restart 37 = .ok (.bipush 6, 2) := by decide +kernel
theorem dX0_restart_39 : decode cX0_restart 39 = .ok (.iastore, 1) := by decide +kernel
theorem dX0_restart_40 : decode cX0_restart 40 = .ok (.aload_n 0, 1) := by decide +kernel
theorem dX0_restart_41 : decode cX0_restart 41 = .ok (.getfield 15, 3) := by decide +kernel
theorem dX0_restart_44 : decode cX0_restart 44 = .ok (.iload_n 1, 1) := by decide +kernel
theorem dX0_restart_45 : decode cX0_restart 45 = .ok (.iconst 0, 1) := by decide +kernel
theorem dX0_restart_46 : decode cX0_restart 46 = .ok (.iastore, 1) := by decide +kernel
theorem dX0_restart_47 : decode cX0_restart 47 = .ok (.aload_n 0, 1) := by decide +kernel
theorem dX0_restart_48 : decode cX0_restart 48 = .ok (.getfield 39, 3) := by decide +kernel
theorem dX0_restart_51 : decode cX0_restart 51 = .ok (.iload_n 1, 1) := by decide +kernel
theorem dX0_restart_52 : decode cX0_restart 52 = .ok (.iconst 0, 1) := by decide +kernel
theorem dX0_restart_53 : decode cX0_restart 53 = .ok (.iastore, 1) := by decide +kernel
theorem dX0_restart_54 : decode cX0_restart 54 = .ok (.iinc 1 1, 3) := by decide +kernel
theorem dX0_restart_57 : decode cX0_restart 57 = .ok (.goto (-30), 3) := by decide +kernel
theorem dX0_restart_60 : decode cX0_restart 60 = .ok (.return_, 1) := by decide +kernel
theorem dX0_mayComeNext_0 : decode cX0_mayComeNext 0 = .ok (.iload_n 1, 1) := by decide +kernel
theorem dX0_mayComeNext_1 : decode cX0_mayComeNext 1 = .ok (.lookupswitch 96 #[(99, 66), (100, 43), (110, 81), (113, 53)], 43) := by decide +kernel
theorem dX0_mayComeNext_44 : decode cX0_mayComeNext 44 = .ok (.iload_n 2, 1) := by decide +kernel
theorem dX0_mayComeNext_45 : decode cX0_mayComeNext 45 = .ok (.ifCond .ne 7, 3) := by decide +kernel
theorem dX0_mayComeNext_48 : decode cX0_mayComeNext 48 = .ok (.iconst 1, 1) := by decide +kernel
theorem dX0_mayComeNext_49 : decode cX0_mayComeNext 49 = .ok (.goto 4, 3) := by decide +kernel
theorem dX0_mayComeNext_52 : decode cX0_mayComeNext 52 = .ok (.iconst 0, 1) := by decide +kernel
theorem dX0_mayComeNext_53 : decode cX0_mayComeNext 53 = .ok (.ireturn, 1) := by decide +kernel
theorem dX0_mayComeNext_54 : decode cX0_mayComeNext 54 = .ok (.aload_n 0, 1) := by decide +kernel
theorem dX0_mayComeNext_55 : decode cX0_mayComeNext 55 = .ok (.getfield 52, 3) := by decide +kernel
theorem dX0_mayComeNext_58 : decode cX0_mayComeNext 58 = .ok (.ifCond .ne 7, 3) := by decide +kernel
theorem dX0_mayComeNext_61 : decode cX0_mayComeNext 61 = .ok (.iconst 1, 1) := by decide +kernel
theorem dX0_mayComeNext_62 : decode cX0_mayComeNext 62 = .ok (.goto 4, 3) := by decide +kernel
theorem dX0_mayComeNext_65 : decode cX0_mayComeNext 65 = .ok (.iconst 0, 1) := by decide +kernel
theorem dX0_mayComeNext_66 : decode cX0_mayComeNext 66 = .ok (.ireturn, 1) := by decide +kernel
theorem dX0_mayComeNext_67 : decode cX0_mayComeNext 67 = .ok (.aload_n 0, 1) := by decide +kernel
theorem dX0_mayComeNext_68 : decode cX0_mayComeNext 68 = .ok (.getfield 56, 3) := by decide +kernel
theorem dX0_mayComeNext_71 : decode cX0_mayComeNext 71 = .ok (.bipush 6, 2) := by decide +kernel
theorem dX0_mayComeNext_73 : decode cX0_mayComeNext 73 = .ok (.if_icmp .ge 7, 3) := by decide +kernel
theorem dX0_mayComeNext_76 : decode cX0_mayComeNext 76 = .ok (.iconst 1, 1) := by decide +kernel
theorem dX0_mayComeNext_77 : decode cX0_mayComeNext 77 = .ok (.goto 4, 3) := by decide +kernel
theorem dX0_mayComeNext_80 : decode cX0_mayComeNext 80 = .ok (.iconst 0, 1) := by decide +kernel
theorem dX0_mayComeNext_81 : decode cX0_mayComeNext 81 = .ok (.ireturn, 1) := by decide +kernel
theorem dX0_mayComeNext_82 : decode cX0_mayComeNext 82 = .ok (.aload_n 0, 1) := by decide +kernel
theorem dX0_mayComeNext_83 : decode cX0_mayComeNext 83 = .ok (.getfield 59, 3) := by decide +kernel
theorem dX0_mayComeNext_86 : decode cX0_mayComeNext 86 = .ok (.bipush 6, 2) := by decide +kernel
theorem dX0_mayComeNext_88 : decode cX0_mayComeNext 88 = .ok (.if_icmp .ge 7, 3) := by decide +kernel
theorem dX0_mayComeNext_91 : decode cX0_mayComeNext 91 = .ok (.iconst 1, 1) := by decide +kernel
theorem dX0_mayComeNext_92 : decode cX0_mayComeNext 92 = .ok (.goto 4, 3) := by decide +kernel
theorem dX0_mayComeNext_95 : decode cX0_mayComeNext 95 = .ok (.iconst 0, 1) := by decide +kernel
theorem dX0_mayComeNext_96 : decode cX0_mayComeNext 96 = .ok (.ireturn, 1) := by decide +kernel
theorem dX0_mayComeNext_97 : decode cX0_mayComeNext 97 = .ok (.iload_n 1, 1) := by decide +kernel
theorem dX0_mayComeNext_98 : decode cX0_mayComeNext 98 = .ok (.bipush 101, 2) := by decide +kernel
theorem dX0_mayComeNext_100 : decode cX0_mayComeNext 100 = .ok (.if_icmp .eq 9, 3) := by decide +kernel
theorem dX0_mayComeNext_103 : decode cX0_mayComeNext 103 = .ok (.iload_n 1, 1) := by decide +kernel
theorem dX0_mayComeNext_104 : decode cX0_mayComeNext 104 = .ok (.bipush 98, 2) := by decide +kernel
theorem dX0_mayComeNext_106 : decode cX0_mayComeNext 106 = .ok (.if_icmp .ne 7, 3) := by decide +kernel
theorem dX0_mayComeNext_109 : decode cX0_mayComeNext 109 = .ok (.iconst 1, 1) := by decide +kernel
theorem dX0_mayComeNext_110 : decode cX0_mayComeNext 110 = .ok (.goto 4, 3) := by decide +kernel
theorem dX0_mayComeNext_113 : decode cX0_mayComeNext 113 = .ok (.iconst 0, 1) := by decide +kernel
theorem dX0_mayComeNext_114 : decode cX0_mayComeNext 114 = .ok (.ireturn, 1) := by decide +kernel
theorem dX0_tell_0 : decode cX0_tell 0 = .ok (.iload_n 1, 1) := by decide +kernel
theorem dX0_tell_1 : decode cX0_tell 1 = .ok (.tableswitch 169 98 113 #[139, 153, 79, 104, 169, 169, 169, 169, 169, 169, 169, 169, 161, 169, 169, 89], 79) := by decide +kernel
theorem dX0_tell_80 : decode cX0_tell 80 = .ok (.aload_n 0, 1) := by decide +kernel
theorem dX0_tell_81 : decode cX0_tell 81 = .ok (.aload_n 2, 1) := by decide +kernel
theorem dX0_tell_82 : decode cX0_tell 82 = .ok (.iconst 0, 1) := by decide +kernel
theorem dX0_tell_83 : decode cX0_tell 83 = .ok (.iaload, 1) := by decide +kernel
theorem dX0_tell_84 : decode cX0_tell 84 = .ok (.putfield 45, 3) := by decide +kernel
theorem dX0_tell_87 : decode cX0_tell 87 = .ok (.goto 83, 3) := by decide +kernel
theorem dX0_tell_90 : decode cX0_tell 90 = .ok (.aload_n 0, 1) := by decide +kernel
theorem dX0_tell_91 : decode cX0_tell 91 = .ok (.aload_n 2, 1) := by decide +kernel
theorem dX0_tell_92 : decode cX0_tell 92 = .ok (.iconst 0, 1) := by decide +kernel
theorem dX0_tell_93 : decode cX0_tell 93 = .ok (.iaload, 1) := by decide +kernel
theorem dX0_tell_94 : decode cX0_tell 94 = .ok (.putfield 49, 3) := by decide +kernel
theorem dX0_tell_97 : decode cX0_tell 97 = .ok (.aload_n 0, 1) := by decide +kernel
theorem dX0_tell_98 : decode cX0_tell 98 = .ok (.iconst 1, 1) := by decide +kernel
theorem dX0_tell_99 : decode cX0_tell 99 = .ok (.putfield 52, 3) := by decide +kernel
theorem dX0_tell_102 : decode cX0_tell 102 = .ok (.goto 68, 3) := by decide +kernel
theorem dX0_tell_105 : decode cX0_tell 105 = .ok (.aload_n 0, 1) := by decide +kernel
theorem dX0_tell_106 : decode cX0_tell 106 = .ok (.getfield 15, 3) := by decide +kernel
theorem dX0_tell_109 : decode cX0_tell 109 = .ok (.aload_n 2, 1) := by decide +kernel
theorem dX0_tell_110 : decode cX0_tell 110 = .ok (.iconst 0, 1) := by decide +kernel
theorem dX0_tell_111 : decode cX0_tell 111 = .ok (.iaload, 1) := by decide +kernel
theorem dX0_tell_112 : decode cX0_tell 112 = .ok (.dup2, 1) := by decide +kernel
theorem dX0_tell_113 : decode cX0_tell 113 = .ok (.iaload, 1) := by decide +kernel
theorem dX0_tell_114 : decode cX0_tell 114 = .ok (.iconst 1, 1) := by decide +kernel
theorem dX0_tell_115 : decode cX0_tell 115 = .ok (.aload_n 2, 1) := by decide +kernel
theorem dX0_tell_116 : decode cX0_tell 116 = .ok (.iconst 1, 1) := by decide +kernel
theorem dX0_tell_117 : decode cX0_tell 117 = .ok (.iaload, 1) := by decide +kernel
theorem dX0_tell_118 : decode cX0_tell 118 = .ok (.ishl, 1) := by decide +kernel
theorem dX0_tell_119 : decode cX0_tell 119 = .ok (.ior, 1) := by decide +kernel
theorem dX0_tell_120 : decode cX0_tell 120 = .ok (.iastore, 1) := by decide +kernel
theorem dX0_tell_121 : decode cX0_tell 121 = .ok (.aload_n 0, 1) := by decide +kernel
theorem dX0_tell_122 : decode cX0_tell 122 = .ok (.getfield 15, 3) := by decide +kernel
theorem dX0_tell_125 : decode cX0_tell 125 = .ok (.aload_n 2, 1) := by decide +kernel
theorem dX0_tell_126 : decode cX0_tell 126 = .ok (.iconst 1, 1) := by decide +kernel
theorem dX0_tell_127 : decode cX0_tell 127 = .ok (.iaload, 1) := by decide +kernel
theorem dX0_tell_128 : decode cX0_tell 128 = .ok (.dup2, 1) := by decide +kernel
theorem dX0_tell_129 : decode cX0_tell 129 = .ok (.iaload, 1) := by decide +kernel
theorem dX0_tell_130 : decode cX0_tell 130 = .ok (.iconst 1, 1) := by decide +kernel
theorem dX0_tell_131 : decode cX0_tell 131 = .ok (.aload_n 2, 1) := by decide +kernel
theorem dX0_tell_132 : decode cX0_tell 132 = .ok (.iconst 0, 1) := by decide +kernel
theorem dX0_tell_133 : decode cX0_tell 133 = .ok (.iaload, 1) := by decide +kernel
theorem dX0_tell_134 : decode cX0_tell 134 = .ok (.ishl, 1) := by decide +kernel
theorem dX0_tell_135 : decode cX0_tell 135 = .ok (.ior, 1) := by decide +kernel
theorem dX0_tell_136 : decode cX0_tell 136 = .ok (.iastore, 1) := by decide +kernel
theorem dX0_tell_137 : decode cX0_tell 137 = .ok (.goto 33, 3) := by decide +kernel
theorem dX0_tell_140 : decode cX0_tell 140 = .ok (.aload_n 0, 1) := by decide +kernel
theorem dX0_tell_141 : decode cX0_tell 141 = .ok (.getfield 9, 3) := by decide +kernel
theorem dX0_tell_144 : decode cX0_tell 144 = .ok (.aload_n 2, 1) := by decide +kernel
theorem dX0_tell_145 : decode cX0_tell 145 = .ok (.iconst 0, 1) := by decide +kernel
theorem dX0_tell_146 : decode cX0_tell 146 = .ok (.iaload, 1) := by decide +kernel
theorem dX0_tell_147 : decode cX0_tell 147 = .ok (.aload_n 2, 1) := by decide +kernel
theorem dX0_tell_148 : decode cX0_tell 148 = .ok (.iconst 1, 1) := by decide +kernel
theorem dX0_tell_149 : decode cX0_tell 149 = .ok (.iaload, 1) := by decide +kernel
theorem dX0_tell_150 : decode cX0_tell 150 = .ok (.iastore, 1) := by decide +kernel
theorem dX0_tell_151 : decode cX0_tell 151 = .ok (.goto 19, 3) := by decide +kernel
theorem dX0_tell_154 : decode cX0_tell 154 = .ok (.aload_n 0, 1) := by decide +kernel
theorem dX0_tell_155 : decode cX0_tell 155 = .ok (.aload_n 2, 1) := by decide +kernel
theorem dX0_tell_156 : decode cX0_tell 156 = .ok (.invokevirtual 62, 3) := by decide +kernel
theorem dX0_tell_159 : decode cX0_tell 159 = .ok (.goto 11, 3) := by decide +kernel
theorem dX0_tell_162 : decode cX0_tell 162 = .ok (.aload_n 0, 1) := by decide +kernel
theorem dX0_tell_163 : decode cX0_tell 163 = .ok (.aload_n 2, 1) := by decide +kernel
theorem dX0_tell_164 : decode cX0_tell 164 = .ok (.invokevirtual 66, 3) := by decide +kernel
theorem dX0_tell_167 : decode cX0_tell 167 = .ok (.goto 3, 3) := by decide +kernel
theorem dX0_tell_170 : decode cX0_tell 170 = .ok (.return_, 1) := by decide +kernel
theorem dX0_tellCitizen_0 : decode cX0_tellCitizen 0 = .ok (.aload_n 0, 1) := by decide +kernel
theorem dX0_tellCitizen_1 : decode cX0_tellCitizen 1 = .ok (.getfield 18, 3) := by decide +kernel
theorem dX0_tellCitizen_4 : decode cX0_tellCitizen 4 = .ok (.aload_n 0, 1) := by decide +kernel
theorem dX0_tellCitizen_5 : decode cX0_tellCitizen 5 = .ok (.getfield 56, 3) := by decide +kernel
theorem dX0_tellCitizen_8 : decode cX0_tellCitizen 8 = .ok (.aload_n 1, 1) := by decide +kernel
theorem dX0_tellCitizen_9 : decode cX0_tellCitizen 9 = .ok (.iconst 0, 1) := by decide +kernel
theorem dX0_tellCitizen_10 : decode cX0_tellCitizen 10 = .ok (.iaload, 1) := by decide +kernel
theorem dX0_tellCitizen_11 : decode cX0_tellCitizen 11 = .ok (.iastore, 1) := by decide +kernel
theorem dX0_tellCitizen_12 : decode cX0_tellCitizen 12 = .ok (.aload_n 0, 1) := by decide +kernel
theorem dX0_tellCitizen_13 : decode cX0_tellCitizen 13 = .ok (.getfield 21, 3) := by decide +kernel
theorem dX0_tellCitizen_16 : decode cX0_tellCitizen 16 = .ok (.aload_n 0, 1) := by decide +kernel
theorem dX0_tellCitizen_17 : decode cX0_tellCitizen 17 = .ok (.getfield 56, 3) := by decide +kernel
theorem dX0_tellCitizen_20 : decode cX0_tellCitizen 20 = .ok (.aload_n 1, 1) := by decide +kernel
theorem dX0_tellCitizen_21 : decode cX0_tellCitizen 21 = .ok (.iconst 1, 1) := by decide +kernel
theorem dX0_tellCitizen_22 : decode cX0_tellCitizen 22 = .ok (.iaload, 1) := by decide +kernel
theorem dX0_tellCitizen_23 : decode cX0_tellCitizen 23 = .ok (.iastore, 1) := by decide +kernel
theorem dX0_tellCitizen_24 : decode cX0_tellCitizen 24 = .ok (.aload_n 0, 1) := by decide +kernel
theorem dX0_tellCitizen_25 : decode cX0_tellCitizen 25 = .ok (.getfield 24, 3) := by decide +kernel
theorem dX0_tellCitizen_28 : decode cX0_tellCitizen 28 = .ok (.aload_n 0, 1) := by decide +kernel
theorem dX0_tellCitizen_29 : decode cX0_tellCitizen 29 = .ok (.getfield 56, 3) := by decide +kernel
theorem dX0_tellCitizen_32 : decode cX0_tellCitizen 32 = .ok (.aload_n 1, 1) := by decide +kernel
theorem dX0_tellCitizen_33 : decode cX0_tellCitizen 33 = .ok (.iconst 2, 1) := by decide +kernel
theorem dX0_tellCitizen_34 : decode cX0_tellCitizen 34 = .ok (.iaload, 1) := by decide +kernel
theorem dX0_tellCitizen_35 : decode cX0_tellCitizen 35 = .ok (.iastore, 1) := by decide +kernel
theorem dX0_tellCitizen_36 : decode cX0_tellCitizen 36 = .ok (.aload_n 0, 1) := by decide +kernel
theorem dX0_tellCitizen_37 : decode cX0_tellCitizen 37 = .ok (.getfield 27, 3) := by decide +kernel
theorem dX0_tellCitizen_40 : decode cX0_tellCitizen 40 = .ok (.aload_n 0, 1) := by decide +kernel
theorem dX0_tellCitizen_41 : decode cX0_tellCitizen 41 = .ok (.getfield 56, 3) := by decide +kernel
theorem dX0_tellCitizen_44 : decode cX0_tellCitizen 44 = .ok (.aload_n 1, 1) := by decide +kernel
theorem dX0_tellCitizen_45 : decode cX0_tellCitizen 45 = .ok (.iconst 3, 1) := by decide +kernel
theorem dX0_tellCitizen_46 : decode cX0_tellCitizen 46 = .ok (.iaload, 1) := by decide +kernel
theorem dX0_tellCitizen_47 : decode cX0_tellCitizen 47 = .ok (.iastore, 1) := by decide +kernel
theorem dX0_tellCitizen_48 : decode cX0_tellCitizen 48 = .ok (.aload_n 0, 1) := by decide +kernel
theorem dX0_tellCitizen_49 : decode cX0_tellCitizen 49 = .ok (.getfield 39, 3) := by decide +kernel
theorem dX0_tellCitizen_52 : decode cX0_tellCitizen 52 = .ok (.aload_n 1, 1) := by decide +kernel
theorem dX0_tellCitizen_53 : decode cX0_tellCitizen 53 = .ok (.iconst 0, 1) := by decide +kernel
theorem dX0_tellCitizen_54 : decode cX0_tellCitizen 54 = .ok (.iaload, 1) := by decide +kernel
theorem dX0_tellCitizen_55 : decode cX0_tellCitizen 55 = .ok (.dup2, 1) := by decide +kernel
theorem dX0_tellCitizen_56 : decode cX0_tellCitizen 56 = .ok (.iaload, 1) := by decide +kernel
theorem dX0_tellCitizen_57 : decode cX0_tellCitizen 57 = .ok (.iconst 1, 1) := by decide +kernel
theorem dX0_tellCitizen_58 : decode cX0_tellCitizen 58 = .ok (.aload_n 0, 1) := by decide +kernel
theorem dX0_tellCitizen_59 : decode cX0_tellCitizen 59 = .ok (.getfield 56, 3) := by decide +kernel
theorem dX0_tellCitizen_62 : decode cX0_tellCitizen 62 = .ok (.ishl, 1) := by decide +kernel
theorem dX0_tellCitizen_63 : decode cX0_tellCitizen 63 = .ok (.ior, 1) := by decide +kernel
theorem dX0_tellCitizen_64 : decode cX0_tellCitizen 64 = .ok (.iastore, 1) := by decide +kernel
theorem dX0_tellCitizen_65 : decode cX0_tellCitizen 65 = .ok (.aload_n 0, 1) := by decide +kernel
theorem dX0_tellCitizen_66 : decode cX0_tellCitizen 66 = .ok (.dup, 1) := by decide +kernel
theorem dX0_tellCitizen_67 : decode cX0_tellCitizen 67 = .ok (.getfield 56, 3) := by decide +kernel
theorem dX0_tellCitizen_70 : decode cX0_tellCitizen 70 = .ok (.iconst 1, 1) := by decide +kernel
theorem dX0_tellCitizen_71 : decode cX0_tellCitizen 71 = .ok (.iadd, 1) := by decide +kernel
theorem dX0_tellCitizen_72 : decode cX0_tellCitizen 72 = .ok (.putfield 56, 3) := by decide +kernel
theorem dX0_tellCitizen_75 : decode cX0_tellCitizen 75 = .ok (.return_, 1) := by decide +kernel
theorem dX0_tellNoise_0 : decode cX0_tellNoise 0 = .ok (.aload_n 0, 1) := by decide +kernel
theorem dX0_tellNoise_1 : decode cX0_tellNoise 1 = .ok (.getfield 30, 3) := by decide +kernel
theorem dX0_tellNoise_4 : decode cX0_tellNoise 4 = .ok (.aload_n 0, 1) := by decide +kernel
theorem dX0_tellNoise_5 : decode cX0_tellNoise 5 = .ok (.getfield 59, 3) := by decide +kernel
theorem dX0_tellNoise_8 : decode cX0_tellNoise 8 = .ok (.aload_n 1, 1) := by decide +kernel
theorem dX0_tellNoise_9 : decode cX0_tellNoise 9 = .ok (.iconst 0, 1) := by decide +kernel
theorem dX0_tellNoise_10 : decode cX0_tellNoise 10 = .ok (.iaload, 1) := by decide +kernel
theorem dX0_tellNoise_11 : decode cX0_tellNoise 11 = .ok (.iastore, 1) := by decide +kernel
theorem dX0_tellNoise_12 : decode cX0_tellNoise 12 = .ok (.aload_n 0, 1) := by decide +kernel
theorem dX0_tellNoise_13 : decode cX0_tellNoise 13 = .ok (.getfield 33, 3) := by decide +kernel
theorem dX0_tellNoise_16 : decode cX0_tellNoise 16 = .ok (.aload_n 0, 1) := by decide +kernel
theorem dX0_tellNoise_17 : decode cX0_tellNoise 17 = .ok (.getfield 59, 3) := by decide +kernel
theorem dX0_tellNoise_20 : decode cX0_tellNoise 20 = .ok (.aload_n 1, 1) := by decide +kernel
theorem dX0_tellNoise_21 : decode cX0_tellNoise 21 = .ok (.iconst 1, 1) := by decide +kernel
theorem dX0_tellNoise_22 : decode cX0_tellNoise 22 = .ok (.iaload, 1) := by decide +kernel
theorem dX0_tellNoise_23 : decode cX0_tellNoise 23 = .ok (.iastore, 1) := by decide +kernel
theorem dX0_tellNoise_24 : decode cX0_tellNoise 24 = .ok (.aload_n 0, 1) := by decide +kernel
theorem dX0_tellNoise_25 : decode cX0_tellNoise 25 = .ok (.getfield 36, 3) := by decide +kernel
theorem dX0_tellNoise_28 : decode cX0_tellNoise 28 = .ok (.aload_n 0, 1) := by decide +kernel
theorem dX0_tellNoise_29 : decode cX0_tellNoise 29 = .ok (.getfield 59, 3) := by decide +kernel
theorem dX0_tellNoise_32 : decode cX0_tellNoise 32 = .ok (.aload_n 1, 1) := by decide +kernel
theorem dX0_tellNoise_33 : decode cX0_tellNoise 33 = .ok (.iconst 2, 1) := by decide +kernel
theorem dX0_tellNoise_34 : decode cX0_tellNoise 34 = .ok (.iaload, 1) := by decide +kernel
theorem dX0_tellNoise_35 : decode cX0_tellNoise 35 = .ok (.iastore, 1) := by decide +kernel
theorem dX0_tellNoise_36 : decode cX0_tellNoise 36 = .ok (.aload_n 0, 1) := by decide +kernel
theorem dX0_tellNoise_37 : decode cX0_tellNoise 37 = .ok (.dup, 1) := by decide +kernel
theorem dX0_tellNoise_38 : decode cX0_tellNoise 38 = .ok (.getfield 59, 3) := by decide +kernel
theorem dX0_tellNoise_41 : decode cX0_tellNoise 41 = .ok (.iconst 1, 1) := by decide +kernel
theorem dX0_tellNoise_42 : decode cX0_tellNoise 42 = .ok (.iadd, 1) := by decide +kernel
theorem dX0_tellNoise_43 : decode cX0_tellNoise 43 = .ok (.putfield 59, 3) := by decide +kernel
theorem dX0_tellNoise_46 : decode cX0_tellNoise 46 = .ok (.return_, 1) := by decide +kernel
theorem dX0_settle_0 : decode cX0_settle 0 = .ok (.iconst 0, 1) := by decide +kernel
theorem dX0_settle_1 : decode cX0_settle 1 = .ok (.istore_n 1, 1) := by decide +kernel
theorem dX0_settle_2 : decode cX0_settle 2 = .ok (.iload_n 1, 1) := by decide +kernel
theorem dX0_settle_3 : decode cX0_settle 3 = .ok (.bipush 8, 2) := by decide +kernel
theorem dX0_settle_5 : decode cX0_settle 5 = .ok (.if_icmp .ge 65, 3) := by decide +kernel
theorem dX0_settle_8 : decode cX0_settle 8 = .ok (.iconst 0, 1) := by decide +kernel
theorem dX0_settle_9 : decode cX0_settle 9 = .ok (.istore_n 2, 1) := by decide +kernel
theorem dX0_settle_10 : decode cX0_settle 10 = .ok (.iconst 0, 1) := by decide +kernel
theorem dX0_settle_11 : decode cX0_settle 11 = .ok (.istore_n 3, 1) := by decide +kernel
theorem dX0_settle_12 : decode cX0_settle 12 = .ok (.iload_n 3, 1) := by decide +kernel
theorem dX0_settle_13 : decode cX0_settle 13 = .ok (.aload_n 0, 1) := by decide +kernel
theorem dX0_settle_14 : decode cX0_settle 14 = .ok (.getfield 56, 3) := by decide +kernel
theorem dX0_settle_17 : decode cX0_settle 17 = .ok (.if_icmp .ge 28, 3) := by decide +kernel
theorem dX0_settle_20 : decode cX0_settle 20 = .ok (.aload_n 0, 1) := by decide +kernel
theorem dX0_settle_21 : decode cX0_settle 21 = .ok (.getfield 24, 3) := by decide +kernel
theorem dX0_settle_24 : decode cX0_settle 24 = .ok (.iload_n 3, 1) := by decide +kernel
theorem dX0_settle_25 : decode cX0_settle 25 = .ok (.iaload, 1) := by decide +kernel
theorem dX0_settle_26 : decode cX0_settle 26 = .ok (.iload_n 1, 1) := by decide +kernel
theorem dX0_settle_27 : decode cX0_settle 27 = .ok (.invokestatic 69, 3) := by decide +kernel
theorem dX0_settle_30 : decode cX0_settle 30 = .ok (.ifCond .ne 9, 3) := by decide +kernel
theorem dX0_settle_33 : decode cX0_settle 33 = .ok (.iload_n 2, 1) := by decide +kernel
theorem dX0_settle_34 : decode cX0_settle 34 = .ok (.iconst 1, 1) := by decide +kernel
theorem dX0_settle_35 : decode cX0_settle 35 = .ok (.iload_n 3, 1) := by decide +kernel
theorem dX0_settle_36 : decode cX0_settle 36 = .ok (.ishl, 1) := by decide +kernel
theorem dX0_settle_37 : decode cX0_settle 37 = .ok (.ior, 1) := by decide +kernel
theorem dX0_settle_38 : decode cX0_settle 38 = .ok (.istore_n 2, 1) := by decide +kernel
theorem dX0_settle_39 : decode cX0_settle 39 = .ok (.iinc 3 1, 3) := by decide +kernel
theorem dX0_settle_42 : decode cX0_settle 42 = .ok (.goto (-30), 3) := by decide +kernel
theorem dX0_settle_45 : decode cX0_settle 45 = .ok (.aload_n 0, 1) := by decide +kernel
theorem dX0_settle_46 : decode cX0_settle 46 = .ok (.getfield 42, 3) := by decide +kernel
theorem dX0_settle_49 : decode cX0_settle 49 = .ok (.iload_n 1, 1) := by decide +kernel
theorem dX0_settle_50 : decode cX0_settle 50 = .ok (.iload_n 2, 1) := by decide +kernel
theorem dX0_settle_51 : decode cX0_settle 51 = .ok (.aload_n 0, 1) := by decide +kernel
theorem dX0_settle_52 : decode cX0_settle 52 = .ok (.aload_n 0, 1) := by decide +kernel
theorem dX0_settle_53 : decode cX0_settle 53 = .ok (.iload_n 1, 1) := by decide +kernel
theorem dX0_settle_54 : decode cX0_settle 54 = .ok (.invokevirtual 73, 3) := by decide +kernel
theorem dX0_settle_57 : decode cX0_settle 57 = .ok (.invokevirtual 77, 3) := by decide +kernel
theorem dX0_settle_60 : decode cX0_settle 60 = .ok (.iconst (-1), 1) := by decide +kernel
theorem dX0_settle_61 : decode cX0_settle 61 = .ok (.ixor, 1) := by decide +kernel
theorem dX0_settle_62 : decode cX0_settle 62 = .ok (.iand, 1) := by decide +kernel
theorem dX0_settle_63 : decode cX0_settle 63 = .ok (.iastore, 1) := by decide +kernel
theorem dX0_settle_64 : decode cX0_settle 64 = .ok (.iinc 1 1, 3) := by decide +kernel
theorem dX0_settle_67 : decode cX0_settle 67 = .ok (.goto (-65), 3) := by decide +kernel
theorem dX0_settle_70 : decode cX0_settle 70 = .ok (.return_, 1) := by decide +kernel
theorem dX0_tiredOf_0 : decode cX0_tiredOf 0 = .ok (.iconst 0, 1) := by decide +kernel
theorem dX0_tiredOf_1 : decode cX0_tiredOf 1 = .ok (.istore_n 2, 1) := by decide +kernel
theorem dX0_tiredOf_2 : decode cX0_tiredOf 2 = .ok (.iconst 0, 1) := by decide +kernel
theorem dX0_tiredOf_3 : decode cX0_tiredOf 3 = .ok (.istore_n 3, 1) := by decide +kernel
theorem dX0_tiredOf_4 : decode cX0_tiredOf 4 = .ok (.iload_n 3, 1) := by decide +kernel
theorem dX0_tiredOf_5 : decode cX0_tiredOf 5 = .ok (.aload_n 0, 1) := by decide +kernel
theorem dX0_tiredOf_6 : decode cX0_tiredOf 6 = .ok (.getfield 56, 3) := by decide +kernel
theorem dX0_tiredOf_9 : decode cX0_tiredOf 9 = .ok (.if_icmp .ge 21, 3) := by decide +kernel
theorem dX0_tiredOf_12 : decode cX0_tiredOf 12 = .ok (.aload_n 1, 1) := by decide +kernel
theorem dX0_tiredOf_13 : decode cX0_tiredOf 13 = .ok (.iload_n 3, 1) := by decide +kernel
theorem dX0_tiredOf_14 : decode cX0_tiredOf 14 = .ok (.iaload, 1) := by decide +kernel
theorem dX0_tiredOf_15 : decode cX0_tiredOf 15 = .ok (.ifCond .le 9, 3) := by decide +kernel
theorem dX0_tiredOf_18 : decode cX0_tiredOf 18 = .ok (.iload_n 2, 1) := by decide +kernel
theorem dX0_tiredOf_19 : decode cX0_tiredOf 19 = .ok (.iconst 1, 1) := by decide +kernel
theorem dX0_tiredOf_20 : decode cX0_tiredOf 20 = .ok (.iload_n 3, 1) := by decide +kernel
theorem dX0_tiredOf_21 : decode cX0_tiredOf 21 = .ok (.ishl, 1) := by decide +kernel
theorem dX0_tiredOf_22 : decode cX0_tiredOf 22 = .ok (.ior, 1) := by decide +kernel
theorem dX0_tiredOf_23 : decode cX0_tiredOf 23 = .ok (.istore_n 2, 1) := by decide +kernel
theorem dX0_tiredOf_24 : decode cX0_tiredOf 24 = .ok (.iinc 3 1, 3) := by decide +kernel
theorem dX0_tiredOf_27 : decode cX0_tiredOf 27 = .ok (.goto (-23), 3) := by decide +kernel
theorem dX0_tiredOf_30 : decode cX0_tiredOf 30 = .ok (.iload_n 2, 1) := by decide +kernel
theorem dX0_tiredOf_31 : decode cX0_tiredOf 31 = .ok (.ireturn, 1) := by decide +kernel
theorem dX0_bedded_0 : decode cX0_bedded 0 = .ok (.iconst 0, 1) := by decide +kernel
theorem dX0_bedded_1 : decode cX0_bedded 1 = .ok (.istore_n 2, 1) := by decide +kernel
theorem dX0_bedded_2 : decode cX0_bedded 2 = .ok (.iconst 0, 1) := by decide +kernel
theorem dX0_bedded_3 : decode cX0_bedded 3 = .ok (.istore_n 3, 1) := by decide +kernel
theorem dX0_bedded_4 : decode cX0_bedded 4 = .ok (.iload_n 3, 1) := by decide +kernel
theorem dX0_bedded_5 : decode cX0_bedded 5 = .ok (.aload_n 0, 1) := by decide +kernel
theorem dX0_bedded_6 : decode cX0_bedded 6 = .ok (.getfield 45, 3) := by decide +kernel
theorem dX0_bedded_9 : decode cX0_bedded 9 = .ok (.if_icmp .ge 32, 3) := by decide +kernel
theorem dX0_bedded_12 : decode cX0_bedded 12 = .ok (.iload_n 2, 1) := by decide +kernel
theorem dX0_bedded_13 : decode cX0_bedded 13 = .ok (.iload_n 1, 1) := by decide +kernel
theorem dX0_bedded_14 : decode cX0_bedded 14 = .ok (.aload_n 0, 1) := by decide +kernel
theorem dX0_bedded_15 : decode cX0_bedded 15 = .ok (.getfield 39, 3) := by decide +kernel
theorem dX0_bedded_18 : decode cX0_bedded 18 = .ok (.iload_n 3, 1) := by decide +kernel
theorem dX0_bedded_19 : decode cX0_bedded 19 = .ok (.iaload, 1) := by decide +kernel
theorem dX0_bedded_20 : decode cX0_bedded 20 = .ok (.iand, 1) := by decide +kernel
theorem dX0_bedded_21 : decode cX0_bedded 21 = .ok (.invokestatic 80, 3) := by decide +kernel
theorem dX0_bedded_24 : decode cX0_bedded 24 = .ok (.aload_n 0, 1) := by decide +kernel
theorem dX0_bedded_25 : decode cX0_bedded 25 = .ok (.getfield 9, 3) := by decide +kernel
theorem dX0_bedded_28 : decode cX0_bedded 28 = .ok (.iload_n 3, 1) := by decide +kernel
theorem dX0_bedded_29 : decode cX0_bedded 29 = .ok (.iaload, 1) := by decide +kernel
theorem dX0_bedded_30 : decode cX0_bedded 30 = .ok (.invokestatic 85, 3) := by decide +kernel
theorem dX0_bedded_33 : decode cX0_bedded 33 = .ok (.iadd, 1) := by decide +kernel
theorem dX0_bedded_34 : decode cX0_bedded 34 = .ok (.istore_n 2, 1) := by decide +kernel
theorem dX0_bedded_35 : decode cX0_bedded 35 = .ok (.iinc 3 1, 3) := by decide +kernel
theorem dX0_bedded_38 : decode cX0_bedded 38 = .ok (.goto (-34), 3) := by decide +kernel
theorem dX0_bedded_41 : decode cX0_bedded 41 = .ok (.iload_n 2, 1) := by decide +kernel
theorem dX0_bedded_42 : decode cX0_bedded 42 = .ok (.ireturn, 1) := by decide +kernel
theorem dX0_couldLieDown_0 : decode cX0_couldLieDown 0 = .ok (.iconst 0, 1) := by decide +kernel
theorem dX0_couldLieDown_1 : decode cX0_couldLieDown 1 = .ok (.istore_n 2, 1) := by decide +kernel
theorem dX0_couldLieDown_2 : decode cX0_couldLieDown 2 = .ok (.iconst 0, 1) := by decide +kernel
theorem dX0_couldLieDown_3 : decode cX0_couldLieDown 3 = .ok (.istore_n 3, 1) := by decide +kernel
theorem dX0_couldLieDown_4 : decode cX0_couldLieDown 4 = .ok (.iload_n 3, 1) := by decide +kernel
theorem dX0_couldLieDown_5 : decode cX0_couldLieDown 5 = .ok (.aload_n 0, 1) := by decide +kernel
theorem dX0_couldLieDown_6 : decode cX0_couldLieDown 6 = .ok (.getfield 56, 3) := by decide +kernel
theorem dX0_couldLieDown_9 : decode cX0_couldLieDown 9 = .ok (.if_icmp .ge 49, 3) := by decide +kernel
theorem dX0_couldLieDown_12 : decode cX0_couldLieDown 12 = .ok (.aload_n 1, 1) := by decide +kernel
theorem dX0_couldLieDown_13 : decode cX0_couldLieDown 13 = .ok (.getfield 91, 3) := by decide +kernel
theorem dX0_couldLieDown_16 : decode cX0_couldLieDown 16 = .ok (.iload_n 3, 1) := by decide +kernel
theorem dX0_couldLieDown_17 : decode cX0_couldLieDown 17 = .ok (.iaload, 1) := by decide +kernel
theorem dX0_couldLieDown_18 : decode cX0_couldLieDown 18 = .ok (.aload_n 0, 1) := by decide +kernel
theorem dX0_couldLieDown_19 : decode cX0_couldLieDown 19 = .ok (.getfield 24, 3) := by decide +kernel
theorem dX0_couldLieDown_22 : decode cX0_couldLieDown 22 = .ok (.iload_n 3, 1) := by decide +kernel
theorem dX0_couldLieDown_23 : decode cX0_couldLieDown 23 = .ok (.iaload, 1) := by decide +kernel
theorem dX0_couldLieDown_24 : decode cX0_couldLieDown 24 = .ok (.iconst (-1), 1) := by decide +kernel
theorem dX0_couldLieDown_25 : decode cX0_couldLieDown 25 = .ok (.ixor, 1) := by decide +kernel
theorem dX0_couldLieDown_26 : decode cX0_couldLieDown 26 = .ok (.iand, 1) := by decide +kernel
theorem dX0_couldLieDown_27 : decode cX0_couldLieDown 27 = .ok (.aload_n 1, 1) := by decide +kernel
theorem dX0_couldLieDown_28 : decode cX0_couldLieDown 28 = .ok (.getfield 96, 3) := by decide +kernel
theorem dX0_couldLieDown_31 : decode cX0_couldLieDown 31 = .ok (.invokestatic 69, 3) := by decide +kernel
theorem dX0_couldLieDown_34 : decode cX0_couldLieDown 34 = .ok (.ifCond .eq 18, 3) := by decide +kernel
theorem dX0_couldLieDown_37 : decode cX0_couldLieDown 37 = .ok (.aload_n 1, 1) := by decide +kernel
theorem dX0_couldLieDown_38 : decode cX0_couldLieDown 38 = .ok (.getfield 99, 3) := by decide +kernel
theorem dX0_couldLieDown_41 : decode cX0_couldLieDown 41 = .ok (.iload_n 3, 1) := by decide +kernel
theorem dX0_couldLieDown_42 : decode cX0_couldLieDown 42 = .ok (.iaload, 1) := by decide +kernel
theorem dX0_couldLieDown_43 : decode cX0_couldLieDown 43 = .ok (.ifCond .le 9, 3) := by decide +kernel
theorem dX0_couldLieDown_46 : decode cX0_couldLieDown 46 = .ok (.iload_n 2, 1) := by decide +kernel
theorem dX0_couldLieDown_47 : decode cX0_couldLieDown 47 = .ok (.iconst 1, 1) := by decide +kernel
theorem dX0_couldLieDown_48 : decode cX0_couldLieDown 48 = .ok (.iload_n 3, 1) := by decide +kernel
theorem dX0_couldLieDown_49 : decode cX0_couldLieDown 49 = .ok (.ishl, 1) := by decide +kernel
theorem dX0_couldLieDown_50 : decode cX0_couldLieDown 50 = .ok (.ior, 1) := by decide +kernel
theorem dX0_couldLieDown_51 : decode cX0_couldLieDown 51 = .ok (.istore_n 2, 1) := by decide +kernel
theorem dX0_couldLieDown_52 : decode cX0_couldLieDown 52 = .ok (.iinc 3 1, 3) := by decide +kernel
theorem dX0_couldLieDown_55 : decode cX0_couldLieDown 55 = .ok (.goto (-51), 3) := by decide +kernel
theorem dX0_couldLieDown_58 : decode cX0_couldLieDown 58 = .ok (.iload_n 2, 1) := by decide +kernel
theorem dX0_couldLieDown_59 : decode cX0_couldLieDown 59 = .ok (.ireturn, 1) := by decide +kernel
theorem dX0_lyingDown_0 : decode cX0_lyingDown 0 = .ok (.aload_n 0, 1) := by decide +kernel
theorem dX0_lyingDown_1 : decode cX0_lyingDown 1 = .ok (.aload_n 1, 1) := by decide +kernel
theorem dX0_lyingDown_2 : decode cX0_lyingDown 2 = .ok (.invokevirtual 102, 3) := by decide +kernel
theorem dX0_lyingDown_5 : decode cX0_lyingDown 5 = .ok (.istore_n 3, 1) := by decide +kernel
theorem dX0_lyingDown_6 : decode cX0_lyingDown 6 = .ok (.iconst 0, 1) := by decide +kernel
theorem dX0_lyingDown_7 : decode cX0_lyingDown 7 = .ok (.istore 4, 2) := by decide +kernel
theorem dX0_lyingDown_9 : decode cX0_lyingDown 9 = .ok (.iconst 0, 1) := by decide +kernel
theorem dX0_lyingDown_10 : decode cX0_lyingDown 10 = .ok (.istore 5, 2) := by decide +kernel
theorem dX0_lyingDown_12 : decode cX0_lyingDown 12 = .ok (.iload 5, 2) := by decide +kernel
theorem dX0_lyingDown_14 : decode cX0_lyingDown 14 = .ok (.aload_n 0, 1) := by decide +kernel
theorem dX0_lyingDown_15 : decode cX0_lyingDown 15 = .ok (.getfield 56, 3) := by decide +kernel
theorem dX0_lyingDown_18 : decode cX0_lyingDown 18 = .ok (.if_icmp .ge 65, 3) := by decide +kernel
theorem dX0_lyingDown_21 : decode cX0_lyingDown 21 = .ok (.aload_n 0, 1) := by decide +kernel
theorem dX0_lyingDown_22 : decode cX0_lyingDown 22 = .ok (.getfield 18, 3) := by decide +kernel
theorem dX0_lyingDown_25 : decode cX0_lyingDown 25 = .ok (.iload 5, 2) := by decide +kernel
theorem dX0_lyingDown_27 : decode cX0_lyingDown 27 = .ok (.iaload, 1) := by decide +kernel
theorem dX0_lyingDown_28 : decode cX0_lyingDown 28 = .ok (.istore 6, 2) := by decide +kernel
theorem dX0_lyingDown_30 : decode cX0_lyingDown 30 = .ok (.iload 5, 2) := by decide +kernel
theorem dX0_lyingDown_32 : decode cX0_lyingDown 32 = .ok (.iload_n 2, 1) := by decide +kernel
theorem dX0_lyingDown_33 : decode cX0_lyingDown 33 = .ok (.if_icmp .eq 44, 3) := by decide +kernel
theorem dX0_lyingDown_36 : decode cX0_lyingDown 36 = .ok (.iload_n 3, 1) := by decide +kernel
theorem dX0_lyingDown_37 : decode cX0_lyingDown 37 = .ok (.iload 5, 2) := by decide +kernel
theorem dX0_lyingDown_39 : decode cX0_lyingDown 39 = .ok (.invokestatic 69, 3) := by decide +kernel
theorem dX0_lyingDown_42 : decode cX0_lyingDown 42 = .ok (.ifCond .eq 35, 3) := by decide +kernel
theorem dX0_lyingDown_45 : decode cX0_lyingDown 45 = .ok (.iload 4, 2) := by decide +kernel
theorem dX0_lyingDown_47 : decode cX0_lyingDown 47 = .ok (.aload_n 0, 1) := by decide +kernel
theorem dX0_lyingDown_48 : decode cX0_lyingDown 48 = .ok (.getfield 39, 3) := by decide +kernel
theorem dX0_lyingDown_51 : decode cX0_lyingDown 51 = .ok (.iload 6, 2) := by decide +kernel
theorem dX0_lyingDown_53 : decode cX0_lyingDown 53 = .ok (.iaload, 1) := by decide +kernel
theorem dX0_lyingDown_54 : decode cX0_lyingDown 54 = .ok (.iand, 1) := by decide +kernel
theorem dX0_lyingDown_55 : decode cX0_lyingDown 55 = .ok (.invokestatic 80, 3) := by decide +kernel
theorem dX0_lyingDown_58 : decode cX0_lyingDown 58 = .ok (.aload_n 0, 1) := by decide +kernel
theorem dX0_lyingDown_59 : decode cX0_lyingDown 59 = .ok (.getfield 9, 3) := by decide +kernel
theorem dX0_lyingDown_62 : decode cX0_lyingDown 62 = .ok (.iload 6, 2) := by decide +kernel
theorem dX0_lyingDown_64 : decode cX0_lyingDown 64 = .ok (.iaload, 1) := by decide +kernel
theorem dX0_lyingDown_65 : decode cX0_lyingDown 65 = .ok (.if_icmp .ge 12, 3) := by decide +kernel
theorem dX0_lyingDown_68 : decode cX0_lyingDown 68 = .ok (.iload 4, 2) := by decide +kernel
theorem dX0_lyingDown_70 : decode cX0_lyingDown 70 = .ok (.iconst 1, 1) := by decide +kernel
theorem dX0_lyingDown_71 : decode cX0_lyingDown 71 = .ok (.iload 5, 2) := by decide +kernel
theorem dX0_lyingDown_73 : decode cX0_lyingDown 73 = .ok (.ishl, 1) := by decide +kernel
theorem dX0_lyingDown_74 : decode cX0_lyingDown 74 = .ok (.ior, 1) := by decide +kernel
theorem dX0_lyingDown_75 : decode cX0_lyingDown 75 = .ok (.istore 4, 2) := by decide +kernel
theorem dX0_lyingDown_77 : decode cX0_lyingDown 77 = .ok (.iinc 5 1, 3) := by decide +kernel
theorem dX0_lyingDown_80 : decode cX0_lyingDown 80 = .ok (.goto (-68), 3) := by decide +kernel
theorem dX0_lyingDown_83 : decode cX0_lyingDown 83 = .ok (.iload 4, 2) := by decide +kernel
theorem dX0_lyingDown_85 : decode cX0_lyingDown 85 = .ok (.ireturn, 1) := by decide +kernel
theorem dX0_asleep_0 : decode cX0_asleep 0 = .ok (.aload_n 0, 1) := by decide +kernel
theorem dX0_asleep_1 : decode cX0_asleep 1 = .ok (.aload_n 1, 1) := by decide +kernel
theorem dX0_asleep_2 : decode cX0_asleep 2 = .ok (.iload_n 2, 1) := by decide +kernel
theorem dX0_asleep_3 : decode cX0_asleep 3 = .ok (.invokevirtual 106, 3) := by decide +kernel
theorem dX0_asleep_6 : decode cX0_asleep 6 = .ok (.aload_n 0, 1) := by decide +kernel
theorem dX0_asleep_7 : decode cX0_asleep 7 = .ok (.getfield 42, 3) := by decide +kernel
theorem dX0_asleep_10 : decode cX0_asleep 10 = .ok (.aload_n 1, 1) := by decide +kernel
theorem dX0_asleep_11 : decode cX0_asleep 11 = .ok (.getfield 96, 3) := by decide +kernel
theorem dX0_asleep_14 : decode cX0_asleep 14 = .ok (.iaload, 1) := by decide +kernel
theorem dX0_asleep_15 : decode cX0_asleep 15 = .ok (.iand, 1) := by decide +kernel
theorem dX0_asleep_16 : decode cX0_asleep 16 = .ok (.ireturn, 1) := by decide +kernel
theorem dX0_wokenBy_0 : decode cX0_wokenBy 0 = .ok (.iconst 0, 1) := by decide +kernel
theorem dX0_wokenBy_1 : decode cX0_wokenBy 1 = .ok (.istore_n 3, 1) := by decide +kernel
theorem dX0_wokenBy_2 : decode cX0_wokenBy 2 = .ok (.iconst 0, 1) := by decide +kernel
theorem dX0_wokenBy_3 : decode cX0_wokenBy 3 = .ok (.istore 4, 2) := by decide +kernel
theorem dX0_wokenBy_5 : decode cX0_wokenBy 5 = .ok (.iload 4, 2) := by decide +kernel
theorem dX0_wokenBy_7 : decode cX0_wokenBy 7 = .ok (.aload_n 0, 1) := by decide +kernel
theorem dX0_wokenBy_8 : decode cX0_wokenBy 8 = .ok (.getfield 56, 3) := by decide +kernel
theorem dX0_wokenBy_11 : decode cX0_wokenBy 11 = .ok (.if_icmp .ge 38, 3) := by decide +kernel
theorem dX0_wokenBy_14 : decode cX0_wokenBy 14 = .ok (.aload_n 0, 1) := by decide +kernel
theorem dX0_wokenBy_15 : decode cX0_wokenBy 15 = .ok (.getfield 18, 3) := by decide +kernel
theorem dX0_wokenBy_18 : decode cX0_wokenBy 18 = .ok (.iload 4, 2) := by decide +kernel
theorem dX0_wokenBy_20 : decode cX0_wokenBy 20 = .ok (.iaload, 1) := by decide +kernel
theorem dX0_wokenBy_21 : decode cX0_wokenBy 21 = .ok (.iload_n 1, 1) := by decide +kernel
theorem dX0_wokenBy_22 : decode cX0_wokenBy 22 = .ok (.if_icmp .ne 21, 3) := by decide +kernel
theorem dX0_wokenBy_25 : decode cX0_wokenBy 25 = .ok (.aload_n 0, 1) := by decide +kernel
theorem dX0_wokenBy_26 : decode cX0_wokenBy 26 = .ok (.getfield 27, 3) := by decide +kernel
theorem dX0_wokenBy_29 : decode cX0_wokenBy 29 = .ok (.iload 4, 2) := by decide +kernel
theorem dX0_wokenBy_31 : decode cX0_wokenBy 31 = .ok (.iaload, 1) := by decide +kernel
theorem dX0_wokenBy_32 : decode cX0_wokenBy 32 = .ok (.iload_n 2, 1) := by decide +kernel
theorem dX0_wokenBy_33 : decode cX0_wokenBy 33 = .ok (.if_icmp .ge 10, 3) := by decide +kernel
theorem dX0_wokenBy_36 : decode cX0_wokenBy 36 = .ok (.iload_n 3, 1) := by decide +kernel
theorem dX0_wokenBy_37 : decode cX0_wokenBy 37 = .ok (.iconst 1, 1) := by decide +kernel
theorem dX0_wokenBy_38 : decode cX0_wokenBy 38 = .ok (.iload 4, 2) := by decide +kernel
theorem dX0_wokenBy_40 : decode cX0_wokenBy 40 = .ok (.ishl, 1) := by decide +kernel
theorem dX0_wokenBy_41 : decode cX0_wokenBy 41 = .ok (.ior, 1) := by decide +kernel
theorem dX0_wokenBy_42 : decode cX0_wokenBy 42 = .ok (.istore_n 3, 1) := by decide +kernel
theorem dX0_wokenBy_43 : decode cX0_wokenBy 43 = .ok (.iinc 4 1, 3) := by decide +kernel
theorem dX0_wokenBy_46 : decode cX0_wokenBy 46 = .ok (.goto (-41), 3) := by decide +kernel
theorem dX0_wokenBy_49 : decode cX0_wokenBy 49 = .ok (.iload_n 3, 1) := by decide +kernel
theorem dX0_wokenBy_50 : decode cX0_wokenBy 50 = .ok (.ireturn, 1) := by decide +kernel
theorem dX0_wokenByAll_0 : decode cX0_wokenByAll 0 = .ok (.iconst 0, 1) := by decide +kernel
theorem dX0_wokenByAll_1 : decode cX0_wokenByAll 1 = .ok (.istore_n 2, 1) := by decide +kernel
theorem dX0_wokenByAll_2 : decode cX0_wokenByAll 2 = .ok (.iconst 0, 1) := by decide +kernel
theorem dX0_wokenByAll_3 : decode cX0_wokenByAll 3 = .ok (.istore_n 3, 1) := by decide +kernel
theorem dX0_wokenByAll_4 : decode cX0_wokenByAll 4 = .ok (.iload_n 3, 1) := by decide +kernel
theorem dX0_wokenByAll_5 : decode cX0_wokenByAll 5 = .ok (.aload_n 0, 1) := by decide +kernel
theorem dX0_wokenByAll_6 : decode cX0_wokenByAll 6 = .ok (.getfield 59, 3) := by decide +kernel
theorem dX0_wokenByAll_9 : decode cX0_wokenByAll 9 = .ok (.if_icmp .ge 36, 3) := by decide +kernel
theorem dX0_wokenByAll_12 : decode cX0_wokenByAll 12 = .ok (.iload_n 1, 1) := by decide +kernel
theorem dX0_wokenByAll_13 : decode cX0_wokenByAll 13 = .ok (.iload_n 3, 1) := by decide +kernel
theorem dX0_wokenByAll_14 : decode cX0_wokenByAll 14 = .ok (.invokestatic 69, 3) := by decide +kernel
theorem dX0_wokenByAll_17 : decode cX0_wokenByAll 17 = .ok (.ifCond .eq 22, 3) := by decide +kernel
theorem dX0_wokenByAll_20 : decode cX0_wokenByAll 20 = .ok (.iload_n 2, 1) := by decide +kernel
theorem dX0_wokenByAll_21 : decode cX0_wokenByAll 21 = .ok (.aload_n 0, 1) := by decide +kernel
theorem dX0_wokenByAll_22 : decode cX0_wokenByAll 22 = .ok (.aload_n 0, 1) := by decide +kernel
theorem dX0_wokenByAll_23 : decode cX0_wokenByAll 23 = .ok (.getfield 30, 3) := by decide +kernel
theorem dX0_wokenByAll_26 : decode cX0_wokenByAll 26 = .ok (.iload_n 3, 1) := by decide +kernel
theorem dX0_wokenByAll_27 : decode cX0_wokenByAll 27 = .ok (.iaload, 1) := by decide +kernel
theorem dX0_wokenByAll_28 : decode cX0_wokenByAll 28 = .ok (.aload_n 0, 1) := by decide +kernel
theorem dX0_wokenByAll_29 : decode cX0_wokenByAll 29 = .ok (.getfield 36, 3) := by decide +kernel
theorem dX0_wokenByAll_32 : decode cX0_wokenByAll 32 = .ok (.iload_n 3, 1) := by decide +kernel
theorem dX0_wokenByAll_33 : decode cX0_wokenByAll 33 = .ok (.iaload, 1) := by decide +kernel
theorem dX0_wokenByAll_34 : decode cX0_wokenByAll 34 = .ok (.invokevirtual 110, 3) := by decide +kernel
theorem dX0_wokenByAll_37 : decode cX0_wokenByAll 37 = .ok (.ior, 1) := by decide +kernel
theorem dX0_wokenByAll_38 : decode cX0_wokenByAll 38 = .ok (.istore_n 2, 1) := by decide +kernel
theorem dX0_wokenByAll_39 : decode cX0_wokenByAll 39 = .ok (.iinc 3 1, 3) := by decide +kernel
theorem dX0_wokenByAll_42 : decode cX0_wokenByAll 42 = .ok (.goto (-38), 3) := by decide +kernel
theorem dX0_wokenByAll_45 : decode cX0_wokenByAll 45 = .ok (.iload_n 2, 1) := by decide +kernel
theorem dX0_wokenByAll_46 : decode cX0_wokenByAll 46 = .ok (.ireturn, 1) := by decide +kernel
theorem dX0_noisesOf_0 : decode cX0_noisesOf 0 = .ok (.iconst 0, 1) := by decide +kernel
theorem dX0_noisesOf_1 : decode cX0_noisesOf 1 = .ok (.istore_n 2, 1) := by decide +kernel
theorem dX0_noisesOf_2 : decode cX0_noisesOf 2 = .ok (.iconst 0, 1) := by decide +kernel
theorem dX0_noisesOf_3 : decode cX0_noisesOf 3 = .ok (.istore_n 3, 1) := by decide +kernel
theorem dX0_noisesOf_4 : decode cX0_noisesOf 4 = .ok (.iload_n 3, 1) := by decide +kernel
theorem dX0_noisesOf_5 : decode cX0_noisesOf 5 = .ok (.aload_n 0, 1) := by decide +kernel
theorem dX0_noisesOf_6 : decode cX0_noisesOf 6 = .ok (.getfield 59, 3) := by decide +kernel
theorem dX0_noisesOf_9 : decode cX0_noisesOf 9 = .ok (.if_icmp .ge 25, 3) := by decide +kernel
theorem dX0_noisesOf_12 : decode cX0_noisesOf 12 = .ok (.aload_n 0, 1) := by decide +kernel
theorem dX0_noisesOf_13 : decode cX0_noisesOf 13 = .ok (.getfield 33, 3) := by decide +kernel
theorem dX0_noisesOf_16 : decode cX0_noisesOf 16 = .ok (.iload_n 3, 1) := by decide +kernel
theorem dX0_noisesOf_17 : decode cX0_noisesOf 17 = .ok (.iaload, 1) := by decide +kernel
theorem dX0_noisesOf_18 : decode cX0_noisesOf 18 = .ok (.iload_n 1, 1) := by decide +kernel
theorem dX0_noisesOf_19 : decode cX0_noisesOf 19 = .ok (.if_icmp .ne 9, 3) := by decide +kernel
theorem dX0_noisesOf_22 : decode cX0_noisesOf 22 = .ok (.iload_n 2, 1) := by decide +kernel
theorem dX0_noisesOf_23 : decode cX0_noisesOf 23 = .ok (.iconst 1, 1) := by decide +kernel
theorem dX0_noisesOf_24 : decode cX0_noisesOf 24 = .ok (.iload_n 3, 1) := by decide +kernel
theorem dX0_noisesOf_25 : decode cX0_noisesOf 25 = .ok (.ishl, 1) := by decide +kernel
theorem dX0_noisesOf_26 : decode cX0_noisesOf 26 = .ok (.ior, 1) := by decide +kernel
theorem dX0_noisesOf_27 : decode cX0_noisesOf 27 = .ok (.istore_n 2, 1) := by decide +kernel
theorem dX0_noisesOf_28 : decode cX0_noisesOf 28 = .ok (.iinc 3 1, 3) := by decide +kernel
theorem dX0_noisesOf_31 : decode cX0_noisesOf 31 = .ok (.goto (-27), 3) := by decide +kernel
theorem dX0_noisesOf_34 : decode cX0_noisesOf 34 = .ok (.iload_n 2, 1) := by decide +kernel
theorem dX0_noisesOf_35 : decode cX0_noisesOf 35 = .ok (.ireturn, 1) := by decide +kernel
