theorem dX3_init_0 : decode cX3_init 0 = .ok (.aload_n 0, 1) := by decide +kernel
theorem dX3_init_1 : decode cX3_init 1 = .ok (.invokespecial 3, 3) := by decide +kernel
theorem dX3_init_4 : decode cX3_init 4 = .ok (.aload_n 0, 1) := by decide +kernel
theorem dX3_init_5 : decode cX3_init 5 = .ok (.new 9, 3) := by decide +kernel
theorem dX3_init_8 : decode cX3_init 8 = .ok (.dup, 1) := by decide +kernel
theorem dX3_init_9 : decode cX3_init 9 = .ok (.invokespecial 11, 3) := by decide +kernel
theorem dX3_init_12 : decode cX3_init 12 = .ok (.putfield 12, 3) := by decide +kernel
theorem dX3_init_15 : decode cX3_init 15 = .ok (.aload_n 0, 1) := by decide +kernel
theorem dX3_init_16 : decode cX3_init 16 = .ok (.new 16, 3) := by decide +kernel
theorem dX3_init_19 : decode cX3_init 19 = .ok (.dup, 1) := by decide +kernel
theorem dX3_init_20 : decode cX3_init 20 = .ok (.invokespecial 18, 3) := by decide +kernel
theorem dX3_init_23 : decode cX3_init 23 = .ok (.putfield 19, 3) := by decide +kernel
theorem dX3_init_26 : decode cX3_init 26 = .ok (.aload_n 0, 1) := by decide +kernel
theorem dX3_init_27 : decode cX3_init 27 = .ok (.new 16, 3) := by decide +kernel
theorem dX3_init_30 : decode cX3_init 30 = .ok (.dup, 1) := by decide +kernel
theorem dX3_init_31 : decode cX3_init 31 = .ok (.invokespecial 18, 3) := by decide +kernel
theorem dX3_init_34 : decode cX3_init 34 = .ok (.putfield 23, 3) := by decide +kernel
theorem dX3_init_37 : decode cX3_init 37 = .ok (.aload_n 0, 1) := by decide +kernel
theorem dX3_init_38 : decode cX3_init 38 = .ok (.new 26, 3) := by decide +kernel
theorem dX3_init_41 : decode cX3_init 41 = .ok (.dup, 1) := by decide +kernel
theorem dX3_init_42 : decode cX3_init 42 = .ok (.invokespecial 28, 3) := by decide +kernel
theorem dX3_init_45 : decode cX3_init 45 = .ok (.putfield 29, 3) := by decide +kernel
theorem dX3_init_48 : decode cX3_init 48 = .ok (.aload_n 0, 1) := by decide +kernel
theorem dX3_init_49 : decode cX3_init 49 = .ok (.new 26, 3) := by decide +kernel
theorem dX3_init_52 : decode cX3_init 52 = .ok (.dup, 1) := by decide +kernel
theorem dX3_init_53 : decode cX3_init 53 = .ok (.invokespecial 28, 3) := by decide +kernel
theorem dX3_init_56 : decode cX3_init 56 = .ok (.putfield 33, 3) := by decide +kernel
theorem dX3_init_59 : decode cX3_init 59 = .ok (.aload_n 0, 1) := by decide +kernel
theorem dX3_init_60 : decode cX3_init 60 = .ok (.bipush 10, 2) := by decide +kernel
theorem dX3_init_62 : decode cX3_init 62 = .ok (.anewarray 26, 3) := by decide +kernel
theorem dX3_init_65 : decode cX3_init 65 = .ok (.putfield 36, 3) := by decide +kernel
theorem dX3_init_68 : decode cX3_init 68 = .ok (.aload_n 0, 1) := by decide +kernel
theorem dX3_init_69 : decode cX3_init 69 = .ok (.iconst 2, 1) := by decide +kernel
theorem dX3_init_70 : decode cX3_init 70 = .ok (.anewarray 26, 3) := by decide +kernel
theorem dX3_init_73 : decode cX3_init 73 = .ok (.putfield 40, 3) := by decide +kernel
theorem dX3_init_76 : decode cX3_init 76 = .ok (.aload_n 0, 1) := by decide +kernel
theorem dX3_init_77 : decode cX3_init 77 = .ok (.iconst 2, 1) := by decide +kernel
theorem dX3_init_78 : decode cX3_init 78 = .ok (.newarray .boolean, 2) := by decide +kernel
theorem dX3_init_80 : decode cX3_init 80 = .ok (.putfield 43, 3) := by decide +kernel
theorem dX3_init_83 : decode cX3_init 83 = .ok (.aload_n 0, 1) := by decide +kernel
theorem dX3_init_84 : decode cX3_init 84 = .ok (.bipush 6, 2) := by decide +kernel
theorem dX3_init_86 : decode cX3_init 86 = .ok (.newarray .int, 2) := by decide +kernel
theorem dX3_init_88 : decode cX3_init 88 = .ok (.putfield 47, 3) := by decide +kernel
theorem dX3_init_91 : decode cX3_init 91 = .ok (.aload_n 0, 1) := by decide +kernel
theorem dX3_init_92 : decode cX3_init 92 = .ok (.bipush 6, 2) := by decide +kernel
theorem dX3_init_94 : decode cX3_init 94 = .ok (.newarray .int, 2) := by decide +kernel
theorem dX3_init_96 : decode cX3_init 96 = .ok (.putfield 51, 3) := by decide +kernel
theorem dX3_init_99 : decode cX3_init 99 = .ok (.aload_n 0, 1) := by decide +kernel
theorem dX3_init_100 : decode cX3_init 100 = .ok (.iconst 3, 1) := by decide +kernel
theorem dX3_init_101 : decode cX3_init 101 = .ok (.newarray .int, 2) := by decide +kernel
theorem dX3_init_103 : decode cX3_init 103 = .ok (.putfield 54, 3) := by decide +kernel
theorem dX3_init_106 : decode cX3_init 106 = .ok (.aload_n 0, 1) := by decide +kernel
theorem dX3_init_107 : decode cX3_init 107 = .ok (.iconst 4, 1) := by decide +kernel
theorem dX3_init_108 : decode cX3_init 108 = .ok (.bipush 6, 2) := by decide +kernel
theorem dX3_init_110 : decode cX3_init 110 = .ok (.multianewarray 57 2, 4) := by decide +kernel
theorem dX3_init_114 : decode cX3_init 114 = .ok (.putfield 59, 3) := by decide +kernel
theorem dX3_init_117 : decode cX3_init 117 = .ok (.aload_n 0, 1) := by decide +kernel
theorem dX3_init_118 : decode cX3_init 118 = .ok (.iconst 4, 1) := by decide +kernel
theorem dX3_init_119 : decode cX3_init 119 = .ok (.newarray .int, 2) := by decide +kernel
theorem dX3_init_121 : decode cX3_init 121 = .ok (.putfield 62, 3) := by decide +kernel
theorem dX3_init_124 : decode cX3_init 124 = .ok (.iconst 0, 1) := by decide +kernel
theorem dX3_init_125 : decode cX3_init 125 = .ok (.istore_n 1, 1) := by decide +kernel
theorem dX3_init_126 : decode cX3_init 126 = .ok (.iload_n 1, 1) := by decide +kernel
theorem dX3_init_127 : decode cX3_init 127 = .ok (.bipush 10, 2) := by decide +kernel
theorem dX3_init_129 : decode cX3_init 129 = .ok (.if_icmp .ge 22, 3) := by decide +kernel
theorem dX3_init_132 : decode cX3_init 132 = .ok (.aload_n 0, 1) := by decide +kernel
theorem dX3_init_133 : decode cX3_init 133 = .ok (.getfield 36, 3) := by decide +kernel
theorem dX3_init_136 : decode cX3_init 136 = .ok (.iload_n 1, 1) := by decide +kernel
theorem dX3_init_137 : decode cX3_init 137 = .ok (.new 26, 3) := by decide +kernel
theorem dX3_init_140 : decode cX3_init 140 = .ok (.dup, 1) := by decide +kernel
theorem dX3_init_141 : decode cX3_init 141 = .ok (.invokespecial 28, 3) := by decide +kernel
theorem dX3_init_144 : decode cX3_init 144 = .ok (.aastore, 1) := by decide +kernel
theorem dX3_init_145 : decode cX3_init 145 = .ok (.iinc 1 1, 3) := by decide +kernel
theorem dX3_init_148 : decode cX3_init 148 = .ok (.goto (-22), 3) := by decide +kernel
theorem dX3_init_151 : decode cX3_init 151 = .ok (.iconst 0, 1) := by decide +kernel
theorem dX3_init_152 : decode cX3_init 152 = .ok (.istore_n 1, 1) := by decide +kernel
theorem dX3_init_153 : decode cX3_init 153 = .ok (.iload_n 1, 1) := by decide +kernel
theorem dX3_init_154 : decode cX3_init 154 = .ok (.iconst 2, 1) := by decide +kernel
theorem dX3_init_155 : decode cX3_init 155 = .ok (.if_icmp .ge 22, 3) := by decide +kernel
theorem dX3_init_158 : decode cX3_init 158 = .ok (.aload_n 0, 1) := by decide +kernel
theorem dX3_init_159 : decode cX3_init 159 = .ok (.getfield 40, 3) := by decide +kernel
theorem dX3_init_162 : decode cX3_init 162 = .ok (.iload_n 1, 1) := by decide +kernel
theorem dX3_init_163 : decode cX3_init 163 = .ok (.new 26, 3) := by decide +kernel
theorem dX3_init_166 : decode cX3_init 166 = .ok (.dup, 1) := by decide +kernel
theorem dX3_init_167 : decode cX3_init 167 = .ok (.invokespecial 28, 3) := by decide +kernel
theorem dX3_init_170 : decode cX3_init 170 = .ok (.aastore, 1) := by decide +kernel
theorem dX3_init_171 : decode cX3_init 171 = .ok (.iinc 1 1, 3) := by decide +kernel
theorem dX3_init_174 : decode cX3_init 174 = .ok (.goto (-21), 3) := by decide +kernel
theorem dX3_init_177 : decode cX3_init 177 = .ok (.aload_n 0, 1) := by decide +kernel
theorem dX3_init_178 : decode cX3_init 178 = .ok (.getfield 12, 3) := by decide +kernel
theorem dX3_init_181 : decode cX3_init 181 = .ok (.aload_n 0, 1) := by decide +kernel
theorem dX3_init_182 : decode cX3_init 182 = .ok (.getfield 19, 3) := by decide +kernel
theorem dX3_init_185 : decode cX3_init 185 = .ok (.invokevirtual 65, 3) := by decide +kernel
theorem dX3_init_188 : decode cX3_init 188 = .ok (.pop, 1) := by decide +kernel
theorem dX3_init_189 : decode cX3_init 189 = .ok (.aload_n 0, 1) := by decide +kernel
theorem dX3_init_190 : decode cX3_init 190 = .ok (.getfield 29, 3) := by decide +kernel
theorem dX3_init_193 : decode cX3_init 193 = .ok (.aload_n 0, 1) := by decide +kernel
theorem dX3_init_194 : decode cX3_init 194 = .ok (.getfield 19, 3) := by decide +kernel
theorem dX3_init_197 : decode cX3_init 197 = .ok (.invokevirtual 69, 3) := by decide +kernel
theorem dX3_init_200 : decode cX3_init 200 = .ok (.return_, 1) := by decide +kernel
theorem dX3_type_0 : decode cX3_type 0 = .ok (.iload_n 1, 1) := by decide +kernel
theorem dX3_type_1 : decode cX3_type 1 = .ok (.ifCond .lt 10, 3) := by decide +kernel
theorem dX3_type_4 : decode cX3_type 4 = .ok (.iload_n 1, 1) := by decide +kernel
theorem dX3_type_5 : decode cX3_type 5 = .ok (.sipush 255, 3) := by decide +kernel
theorem dX3_type_8 : decode cX3_type 8 = .ok (.if_icmp .le 5, 3) := by decide +kernel
theorem dX3_type_11 : decode cX3_type 11 = .ok (.iconst (-1), 1) := by decide +kernel
theorem dX3_type_12 : decode cX3_type 12 = .ok (.ireturn, 1) := by decide +kernel
theorem dX3_type_13 : decode cX3_type 13 = .ok (.aload_n 0, 1) := by decide +kernel
theorem dX3_type_14 : decode cX3_type 14 = .ok (.getfield 12, 3) := by decide +kernel
theorem dX3_type_17 : decode cX3_type 17 = .ok (.getfield 73, 3) := by decide +kernel
theorem dX3_type_20 : decode cX3_type 20 = .ok (.sipush 200, 3) := by decide +kernel
theorem dX3_type_23 : decode cX3_type 23 = .ok (.if_icmp .lt 6, 3) := by decide +kernel
theorem dX3_type_26 : decode cX3_type 26 = .ok (.bipush (-3), 2) := by decide +kernel
theorem dX3_type_28 : decode cX3_type 28 = .ok (.ireturn, 1) := by decide +kernel
theorem dX3_type_29 : decode cX3_type 29 = .ok (.aload_n 0, 1) := by decide +kernel
theorem dX3_type_30 : decode cX3_type 30 = .ok (.getfield 12, 3) := by decide +kernel
theorem dX3_type_33 : decode cX3_type 33 = .ok (.getfield 77, 3) := by decide +kernel
theorem dX3_type_36 : decode cX3_type 36 = .ok (.aload_n 0, 1) := by decide +kernel
theorem dX3_type_37 : decode cX3_type 37 = .ok (.getfield 12, 3) := by decide +kernel
theorem dX3_type_40 : decode cX3_type 40 = .ok (.getfield 73, 3) := by decide +kernel
theorem dX3_type_43 : decode cX3_type 43 = .ok (.iload_n 1, 1) := by decide +kernel
theorem dX3_type_44 : decode cX3_type 44 = .ok (.i2c, 1) := by decide +kernel
theorem dX3_type_45 : decode cX3_type 45 = .ok (.castore, 1) := by decide +kernel
theorem dX3_type_46 : decode cX3_type 46 = .ok (.aload_n 0, 1) := by decide +kernel
theorem dX3_type_47 : decode cX3_type 47 = .ok (.getfield 12, 3) := by decide +kernel
theorem dX3_type_50 : decode cX3_type 50 = .ok (.dup, 1) := by decide +kernel
theorem dX3_type_51 : decode cX3_type 51 = .ok (.getfield 73, 3) := by decide +kernel
theorem dX3_type_54 : decode cX3_type 54 = .ok (.iconst 1, 1) := by decide +kernel
theorem dX3_type_55 : decode cX3_type 55 = .ok (.iadd, 1) := by decide +kernel
theorem dX3_type_56 : decode cX3_type 56 = .ok (.putfield 73, 3) := by decide +kernel
theorem dX3_type_59 : decode cX3_type 59 = .ok (.aload_n 0, 1) := by decide +kernel
theorem dX3_type_60 : decode cX3_type 60 = .ok (.getfield 12, 3) := by decide +kernel
theorem dX3_type_63 : decode cX3_type 63 = .ok (.getfield 73, 3) := by decide +kernel
theorem dX3_type_66 : decode cX3_type 66 = .ok (.ireturn, 1) := by decide +kernel
theorem dX3_clear_0 : decode cX3_clear 0 = .ok (.aload_n 0, 1) := by decide +kernel
theorem dX3_clear_1 : decode cX3_clear 1 = .ok (.getfield 12, 3) := by decide +kernel
theorem dX3_clear_4 : decode cX3_clear 4 = .ok (.getfield 73, 3) := by decide +kernel
theorem dX3_clear_7 : decode cX3_clear 7 = .ok (.istore_n 1, 1) := by decide +kernel
theorem dX3_clear_8 : decode cX3_clear 8 = .ok (.aload_n 0, 1) := by decide +kernel
theorem dX3_clear_9 : decode cX3_clear 9 = .ok (.getfield 12, 3) := by decide +kernel
theorem dX3_clear_12 : decode cX3_clear 12 = .ok (.iconst 0, 1) := by decide +kernel
theorem dX3_clear_13 : decode cX3_clear 13 = .ok (.putfield 73, 3) := by decide +kernel
theorem dX3_clear_16 : decode cX3_clear 16 = .ok (.iload_n 1, 1) := by decide +kernel
theorem dX3_clear_17 : decode cX3_clear 17 = .ok (.ireturn, 1) := by decide +kernel
theorem dX3_city_0 : decode cX3_city 0 = .ok (.aload_n 0, 1) := by decide +kernel
theorem dX3_city_1 : decode cX3_city 1 = .ok (.getfield 12, 3) := by decide +kernel
theorem dX3_city_4 : decode cX3_city 4 = .ok (.aload_n 0, 1) := by decide +kernel
theorem dX3_city_5 : decode cX3_city 5 = .ok (.getfield 23, 3) := by decide +kernel
theorem dX3_city_8 : decode cX3_city 8 = .ok (.invokevirtual 65, 3) := by decide +kernel
theorem dX3_city_11 : decode cX3_city 11 = .ok (.istore_n 1, 1) := by decide +kernel
theorem dX3_city_12 : decode cX3_city 12 = .ok (.iload_n 1, 1) := by decide +kernel
theorem dX3_city_13 : decode cX3_city 13 = .ok (.ifCond .ge 5, 3) := by decide +kernel
theorem dX3_city_16 : decode cX3_city 16 = .ok (.iload_n 1, 1) := by decide +kernel
theorem dX3_city_17 : decode cX3_city 17 = .ok (.ireturn, 1) := by decide +kernel
theorem dX3_city_18 : decode cX3_city 18 = .ok (.aload_n 0, 1) := by decide +kernel
theorem dX3_city_19 : decode cX3_city 19 = .ok (.getfield 19, 3) := by decide +kernel
theorem dX3_city_22 : decode cX3_city 22 = .ok (.astore_n 2, 1) := by decide +kernel
theorem dX3_city_23 : decode cX3_city 23 = .ok (.aload_n 0, 1) := by decide +kernel
theorem dX3_city_24 : decode cX3_city 24 = .ok (.aload_n 0, 1) := by decide +kernel
theorem dX3_city_25 : decode cX3_city 25 = .ok (.getfield 23, 3) := by decide +kernel
theorem dX3_city_28 : decode cX3_city 28 = .ok (.putfield 19, 3) := by decide +kernel
theorem dX3_city_31 : decode cX3_city 31 = .ok (.aload_n 0, 1) := by decide +kernel
theorem dX3_city_32 : decode cX3_city 32 = .ok (.aload_n 2, 1) := by decide +kernel
theorem dX3_city_33 : decode cX3_city 33 = .ok (.putfield 23, 3) := by decide +kernel
theorem dX3_city_36 : decode cX3_city 36 = .ok (.aload_n 0, 1) := by decide +kernel
theorem dX3_city_37 : decode cX3_city 37 = .ok (.getfield 12, 3) := by decide +kernel
theorem dX3_city_40 : decode cX3_city 40 = .ok (.iconst 0, 1) := by decide +kernel
theorem dX3_city_41 : decode cX3_city 41 = .ok (.putfield 73, 3) := by decide +kernel
theorem dX3_city_44 : decode cX3_city 44 = .ok (.aload_n 0, 1) := by decide +kernel
theorem dX3_city_45 : decode cX3_city 45 = .ok (.getfield 29, 3) := by decide +kernel
theorem dX3_city_48 : decode cX3_city 48 = .ok (.aload_n 0, 1) := by decide +kernel
theorem dX3_city_49 : decode cX3_city 49 = .ok (.getfield 19, 3) := by decide +kernel
theorem dX3_city_52 : decode cX3_city 52 = .ok (.invokevirtual 69, 3) := by decide +kernel
theorem dX3_city_55 : decode cX3_city 55 = .ok (.aload_n 0, 1) := by decide +kernel
theorem dX3_city_56 : decode cX3_city 56 = .ok (.iconst 0, 1) := by decide +kernel
theorem dX3_city_57 : decode cX3_city 57 = .ok (.putfield 81, 3) := by decide +kernel
theorem dX3_city_60 : decode cX3_city 60 = .ok (.aload_n 0, 1) := by decide +kernel
theorem dX3_city_61 : decode cX3_city 61 = .ok (.iconst 0, 1) := by decide +kernel
theorem dX3_city_62 : decode cX3_city 62 = .ok (.putfield 84, 3) := by decide +kernel
theorem dX3_city_65 : decode cX3_city 65 = .ok (.iconst 0, 1) := by decide +kernel
theorem dX3_city_66 : decode cX3_city 66 = .ok (.istore_n 3, 1) := by decide +kernel
theorem dX3_city_67 : decode cX3_city 67 = .ok (.iload_n 3, 1) := by decide +kernel
theorem dX3_city_68 : decode cX3_city 68 = .ok (.iconst 2, 1) := by decide +kernel
theorem dX3_city_69 : decode cX3_city 69 = .ok (.if_icmp .ge 16, 3) := by decide +kernel
theorem dX3_city_72 : decode cX3_city 72 = .ok (.aload_n 0, 1) := by decide +kernel
theorem dX3_city_73 : decode cX3_city 73 = .ok (.getfield 43, 3) := by decide +kernel
theorem dX3_city_76 : decode cX3_city 76 = .ok (.iload_n 3, 1) := by decide +kernel
theorem dX3_city_77 : decode cX3_city 77 = .ok (.iconst 0, 1) := by decide +kernel
theorem dX3_city_78 : decode cX3_city 78 = .ok (.bastore, 1) := by decide +kernel
theorem dX3_city_79 : decode cX3_city 79 = .ok (.iinc 3 1, 3) := by decide +kernel
theorem dX3_city_82 : decode cX3_city 82 = .ok (.goto (-15), 3) := by decide +kernel
theorem dX3_city_85 : decode cX3_city 85 = .ok (.iload_n 1, 1) := by decide +kernel
theorem dX3_city_86 : decode cX3_city 86 = .ok (.ireturn, 1) := by decide +kernel
theorem dX3_district_0 : decode cX3_district 0 = .ok (.aload_n 0, 1) := by decide +kernel
theorem dX3_district_1 : decode cX3_district 1 = .ok (.iload_n 1, 1) := by decide +kernel
theorem dX3_district_2 : decode cX3_district 2 = .ok (.invokevirtual 87, 3) := by decide +kernel
theorem dX3_district_5 : decode cX3_district 5 = .ok (.ifCond .ne 5, 3) := by decide +kernel
theorem dX3_district_8 : decode cX3_district 8 = .ok (.iconst (-1), 1) := by decide +kernel
theorem dX3_district_9 : decode cX3_district 9 = .ok (.ireturn, 1) := by decide +kernel
theorem dX3_district_10 : decode cX3_district 10 = .ok (.iload_n 2, 1) := by decide +kernel
theorem dX3_district_11 : decode cX3_district 11 = .ok (.lookupswitch 45 #[(0, 25), (1, 35)], 25) := by decide +kernel
theorem dX3_district_36 : decode cX3_district 36 = .ok (.aload_n 0, 1) := by decide +kernel
theorem dX3_district_37 : decode cX3_district 37 = .ok (.getfield 19, 3) := by decide +kernel
theorem dX3_district_40 : decode cX3_district 40 = .ok (.getfield 91, 3) := by decide +kernel
theorem dX3_district_43 : decode cX3_district 43 = .ok (.iload_n 1, 1) := by decide +kernel
theorem dX3_district_44 : decode cX3_district 44 = .ok (.iaload, 1) := by decide +kernel
theorem dX3_district_45 : decode cX3_district 45 = .ok (.ireturn, 1) := by decide +kernel
theorem dX3_district_46 : decode cX3_district 46 = .ok (.aload_n 0, 1) := by decide +kernel
theorem dX3_district_47 : decode cX3_district 47 = .ok (.getfield 19, 3) := by decide +kernel
theorem dX3_district_50 : decode cX3_district 50 = .ok (.getfield 94, 3) := by decide +kernel
theorem dX3_district_53 : decode cX3_district 53 = .ok (.iload_n 1, 1) := by decide +kernel
theorem dX3_district_54 : decode cX3_district 54 = .ok (.iaload, 1) := by decide +kernel
theorem dX3_district_55 : decode cX3_district 55 = .ok (.ireturn, 1) := by decide +kernel
theorem dX3_district_56 : decode cX3_district 56 = .ok (.iconst (-1), 1) := by decide +kernel
theorem dX3_district_57 : decode cX3_district 57 = .ok (.ireturn, 1) := by decide +kernel
theorem dX3_citizen_0 : decode cX3_citizen 0 = .ok (.aload_n 0, 1) := by decide +kernel
theorem dX3_citizen_1 : decode cX3_citizen 1 = .ok (.iload_n 1, 1) := by decide +kernel
theorem dX3_citizen_2 : decode cX3_citizen 2 = .ok (.invokevirtual 97, 3) := by decide +kernel
theorem dX3_citizen_5 : decode cX3_citizen 5 = .ok (.ifCond .ne 5, 3) := by decide +kernel
theorem dX3_citizen_8 : decode cX3_citizen 8 = .ok (.iconst (-1), 1) := by decide +kernel
theorem dX3_citizen_9 : decode cX3_citizen 9 = .ok (.ireturn, 1) := by decide +kernel
theorem dX3_citizen_10 : decode cX3_citizen 10 = .ok (.iload_n 2, 1) := by decide +kernel
theorem dX3_citizen_11 : decode cX3_citizen 11 = .ok (.tableswitch 97 0 5 #[37, 47, 57, 67, 77, 87], 37) := by decide +kernel
theorem dX3_citizen_48 : decode cX3_citizen 48 = .ok (.aload_n 0, 1) := by decide +kernel
theorem dX3_citizen_49 : decode cX3_citizen 49 = .ok (.getfield 19, 3) := by decide +kernel
theorem dX3_citizen_52 : decode cX3_citizen 52 = .ok (.getfield 100, 3) := by decide +kernel
theorem dX3_citizen_55 : decode cX3_citizen 55 = .ok (.iload_n 1, 1) := by decide +kernel
theorem dX3_citizen_56 : decode cX3_citizen 56 = .ok (.iaload, 1) := by decide +kernel
theorem dX3_citizen_57 : decode cX3_citizen 57 = .ok (.ireturn, 1) := by decide +kernel
theorem dX3_citizen_58 : decode cX3_citizen 58 = .ok (.aload_n 0, 1) := by decide +kernel
theorem dX3_citizen_59 : decode cX3_citizen 59 = .ok (.getfield 29, 3) := by decide +kernel
theorem dX3_citizen_62 : decode cX3_citizen 62 = .ok (.getfield 103, 3) := by decide +kernel
theorem dX3_citizen_65 : decode cX3_citizen 65 = .ok (.iload_n 1, 1) := by decide +kernel
theorem dX3_citizen_66 : decode cX3_citizen 66 = .ok (.iaload, 1) := by decide +kernel
theorem dX3_citizen_67 : decode cX3_citizen 67 = .ok (.ireturn, 1) := by decide +kernel
theorem dX3_citizen_68 : decode cX3_citizen 68 = .ok (.aload_n 0, 1) := by decide +kernel
theorem dX3_citizen_69 : decode cX3_citizen 69 = .ok (.getfield 19, 3) := by decide +kernel
theorem dX3_citizen_72 : decode cX3_citizen 72 = .ok (.getfield 106, 3) := by decide +kernel
theorem dX3_citizen_75 : decode cX3_citizen 75 = .ok (.iload_n 1, 1) := by decide +kernel
theorem dX3_citizen_76 : decode cX3_citizen 76 = .ok (.iaload, 1) := by decide +kernel
theorem dX3_citizen_77 : decode cX3_citizen 77 = .ok (.ireturn, 1) := by decide +kernel
theorem dX3_citizen_78 : decode cX3_citizen 78 = .ok (.aload_n 0, 1) := by decide +kernel
theorem dX3_citizen_79 : decode cX3_citizen 79 = .ok (.getfield 19, 3) := by decide +kernel
theorem dX3_citizen_82 : decode cX3_citizen 82 = .ok (.getfield 109, 3) := by decide +kernel
theorem dX3_citizen_85 : decode cX3_citizen 85 = .ok (.iload_n 1, 1) := by decide +kernel
theorem dX3_citizen_86 : decode cX3_citizen 86 = .ok (.iaload, 1) := by decide +kernel
theorem dX3_citizen_87 : decode cX3_citizen 87 = .ok (.ireturn, 1) := by decide +kernel
theorem dX3_citizen_88 : decode cX3_citizen 88 = .ok (.aload_n 0, 1) := by decide +kernel
theorem dX3_citizen_89 : decode cX3_citizen 89 = .ok (.getfield 29, 3) := by decide +kernel
theorem dX3_citizen_92 : decode cX3_citizen 92 = .ok (.getfield 112, 3) := by decide +kernel
theorem dX3_citizen_95 : decode cX3_citizen 95 = .ok (.iload_n 1, 1) := by decide +kernel
theorem dX3_citizen_96 : decode cX3_citizen 96 = .ok (.iaload, 1) := by decide +kernel
theorem dX3_citizen_97 : decode cX3_citizen 97 = .ok (.ireturn, 1) := by decide +kernel
theorem dX3_citizen_98 : decode cX3_citizen 98 = .ok (.aload_n 0, 1) := by decide +kernel
theorem dX3_citizen_99 : decode cX3_citizen 99 = .ok (.getfield 29, 3) := by decide +kernel
theorem dX3_citizen_102 : decode cX3_citizen 102 = .ok (.getfield 115, 3) := by decide +kernel
theorem dX3_citizen_105 : decode cX3_citizen 105 = .ok (.iload_n 1, 1) := by decide +kernel
theorem dX3_citizen_106 : decode cX3_citizen 106 = .ok (.iaload, 1) := by decide +kernel
theorem dX3_citizen_107 : decode cX3_citizen 107 = .ok (.ireturn, 1) := by decide +kernel
theorem dX3_citizen_108 : decode cX3_citizen 108 = .ok (.iconst (-1), 1) := by decide +kernel
theorem dX3_citizen_109 : decode cX3_citizen 109 = .ok (.ireturn, 1) := by decide +kernel
theorem dX3_noise_0 : decode cX3_noise 0 = .ok (.iload_n 1, 1) := by decide +kernel
theorem dX3_noise_1 : decode cX3_noise 1 = .ok (.ifCond .lt 14, 3) := by decide +kernel
theorem dX3_noise_4 : decode cX3_noise 4 = .ok (.iload_n 1, 1) := by decide +kernel
theorem dX3_noise_5 : decode cX3_noise 5 = .ok (.aload_n 0, 1) := by decide +kernel
theorem dX3_noise_6 : decode cX3_noise 6 = .ok (.getfield 19, 3) := by decide +kernel
theorem dX3_noise_9 : decode cX3_noise 9 = .ok (.getfield 118, 3) := by decide +kernel
theorem dX3_noise_12 : decode cX3_noise 12 = .ok (.if_icmp .lt 5, 3) := by decide +kernel
theorem dX3_noise_15 : decode cX3_noise 15 = .ok (.iconst (-1), 1) := by decide +kernel
theorem dX3_noise_16 : decode cX3_noise 16 = .ok (.ireturn, 1) := by decide +kernel
theorem dX3_noise_17 : decode cX3_noise 17 = .ok (.iload_n 2, 1) := by decide +kernel
theorem dX3_noise_18 : decode cX3_noise 18 = .ok (.tableswitch 56 0 2 #[26, 36, 46], 26) := by decide +kernel
theorem dX3_noise_44 : decode cX3_noise 44 = .ok (.aload_n 0, 1) := by decide +kernel
theorem dX3_noise_45 : decode cX3_noise 45 = .ok (.getfield 19, 3) := by decide +kernel
theorem dX3_noise_48 : decode cX3_noise 48 = .ok (.getfield 121, 3) := by decide +kernel
theorem dX3_noise_51 : decode cX3_noise 51 = .ok (.iload_n 1, 1) := by decide +kernel
theorem dX3_noise_52 : decode cX3_noise 52 = .ok (.iaload, 1) := by decide +kernel
theorem dX3_noise_53 : decode cX3_noise 53 = .ok (.ireturn, 1) := by decide +kernel
theorem dX3_noise_54 : decode cX3_noise 54 = .ok (.aload_n 0, 1) := by decide +kernel
theorem dX3_noise_55 : decode cX3_noise 55 = .ok (.getfield 19, 3) := by decide +kernel
theorem dX3_noise_58 : decode cX3_noise 58 = .ok (.getfield 124, 3) := by decide +kernel
theorem dX3_noise_61 : decode cX3_noise 61 = .ok (.iload_n 1, 1) := by decide +kernel
theorem dX3_noise_62 : decode cX3_noise 62 = .ok (.iaload, 1) := by decide +kernel
theorem dX3_noise_63 : decode cX3_noise 63 = .ok (.ireturn, 1) := by decide +kernel
theorem dX3_noise_64 : decode cX3_noise 64 = .ok (.aload_n 0, 1) := by decide +kernel
theorem dX3_noise_65 : decode cX3_noise 65 = .ok (.getfield 19, 3) := by decide +kernel
theorem dX3_noise_68 : decode cX3_noise 68 = .ok (.getfield 127, 3) := by decide +kernel
theorem dX3_noise_71 : decode cX3_noise 71 = .ok (.iload_n 1, 1) := by decide +kernel
theorem dX3_noise_72 : decode cX3_noise 72 = .ok (.iaload, 1) := by decide +kernel
theorem dX3_noise_73 : decode cX3_noise 73 = .ok (.ireturn, 1) := by decide +kernel
theorem dX3_noise_74 : decode cX3_noise 74 = .ok (.iconst (-1), 1) := by decide +kernel
theorem dX3_noise_75 : decode cX3_noise 75 = .ok (.ireturn, 1) := by decide +kernel
theorem dX3_now_0 : decode cX3_now 0 = .ok (.iload_n 1, 1) := by decide +kernel
theorem dX3_now_1 : decode cX3_now 1 = .ok (.tableswitch 78 0 5 #[39, 47, 55, 63, 68, 73], 39) := by decide +kernel
theorem dX3_now_40 : decode cX3_now 40 = .ok (.aload_n 0, 1) := by decide +kernel
theorem dX3_now_41 : decode cX3_now 41 = .ok (.getfield 29, 3) := by decide +kernel
theorem dX3_now_44 : decode cX3_now 44 = .ok (.getfield 130, 3) := by decide +kernel
theorem dX3_now_47 : decode cX3_now 47 = .ok (.ireturn, 1) := by decide +kernel
theorem dX3_now_48 : decode cX3_now 48 = .ok (.aload_n 0, 1) := by decide +kernel
theorem dX3_now_49 : decode cX3_now 49 = .ok (.getfield 29, 3) := by decide +kernel
theorem dX3_now_52 : decode cX3_now 52 = .ok (.getfield 133, 3) := by decide +kernel
theorem dX3_now_55 : decode cX3_now 55 = .ok (.ireturn, 1) := by decide +kernel
theorem dX3_now_56 : decode cX3_now 56 = .ok (.aload_n 0, 1) := by decide +kernel
theorem dX3_now_57 : decode cX3_now 57 = .ok (.getfield 29, 3) := by decide +kernel
theorem dX3_now_60 : decode cX3_now 60 = .ok (.getfield 136, 3) := by decide +kernel
theorem dX3_now_63 : decode cX3_now 63 = .ok (.ireturn, 1) := by decide +kernel
theorem dX3_now_64 : decode cX3_now 64 = .ok (.aload_n 0, 1) := by decide +kernel
theorem dX3_now_65 : decode cX3_now 65 = .ok (.invokevirtual 139, 3) := by decide +kernel
theorem dX3_now_68 : decode cX3_now 68 = .ok (.ireturn, 1) := by decide +kernel
theorem dX3_now_69 : decode cX3_now 69 = .ok (.aload_n 0, 1) := by decide +kernel
theorem dX3_now_70 : decode cX3_now 70 = .ok (.invokevirtual 143, 3) := by decide +kernel
theorem dX3_now_73 : decode cX3_now 73 = .ok (.ireturn, 1) := by decide +kernel
theorem dX3_now_74 : decode cX3_now 74 = .ok (.aload_n 0, 1) := by decide +kernel
theorem dX3_now_75 : decode cX3_now 75 = .ok (.getfield 81, 3) := by decide +kernel
theorem dX3_now_78 : decode cX3_now 78 = .ok (.ireturn, 1) := by decide +kernel
theorem dX3_now_79 : decode cX3_now 79 = .ok (.iconst (-1), 1) := by decide +kernel
theorem dX3_now_80 : decode cX3_now 80 = .ok (.ireturn, 1) := by decide +kernel
theorem dX3_sleptMost_0 : decode cX3_sleptMost 0 = .ok (.bipush (-9), 2) := by decide +kernel
theorem dX3_sleptMost_2 : decode cX3_sleptMost 2 = .ok (.istore_n 1, 1) := by decide +kernel
theorem dX3_sleptMost_3 : decode cX3_sleptMost 3 = .ok (.iconst 0, 1) := by decide +kernel
theorem dX3_sleptMost_4 : decode cX3_sleptMost 4 = .ok (.istore_n 2, 1) := by decide +kernel
theorem dX3_sleptMost_5 : decode cX3_sleptMost 5 = .ok (.iload_n 2, 1) := by decide +kernel
theorem dX3_sleptMost_6 : decode cX3_sleptMost 6 = .ok (.aload_n 0, 1) := by decide +kernel
theorem dX3_sleptMost_7 : decode cX3_sleptMost 7 = .ok (.getfield 19, 3) := by decide +kernel
theorem dX3_sleptMost_10 : decode cX3_sleptMost 10 = .ok (.getfield 146, 3) := by decide +kernel
theorem dX3_sleptMost_13 : decode cX3_sleptMost 13 = .ok (.if_icmp .ge 38, 3) := by decide +kernel
theorem dX3_sleptMost_16 : decode cX3_sleptMost 16 = .ok (.iload_n 1, 1) := by decide +kernel
theorem dX3_sleptMost_17 : decode cX3_sleptMost 17 = .ok (.bipush (-9), 2) := by decide +kernel
theorem dX3_sleptMost_19 : decode cX3_sleptMost 19 = .ok (.if_icmp .eq 24, 3) := by decide +kernel
theorem dX3_sleptMost_22 : decode cX3_sleptMost 22 = .ok (.aload_n 0, 1) := by decide +kernel
theorem dX3_sleptMost_23 : decode cX3_sleptMost 23 = .ok (.getfield 29, 3) := by decide +kernel
theorem dX3_sleptMost_26 : decode cX3_sleptMost 26 = .ok (.getfield 115, 3) := by decide +kernel
theorem dX3_sleptMost_29 : decode cX3_sleptMost 29 = .ok (.iload_n 2, 1) := by decide +kernel
theorem dX3_sleptMost_30 : decode cX3_sleptMost 30 = .ok (.iaload, 1) := by decide +kernel
theorem dX3_sleptMost_31 : decode cX3_sleptMost 31 = .ok (.aload_n 0, 1) := by decide +kernel
theorem dX3_sleptMost_32 : decode cX3_sleptMost 32 = .ok (.getfield 29, 3) := by decide +kernel
theorem dX3_sleptMost_35 : decode cX3_sleptMost 35 = .ok (.getfield 115, 3) := by decide +kernel
theorem dX3_sleptMost_38 : decode cX3_sleptMost 38 = .ok (.iload_n 1, 1) := by decide +kernel
theorem dX3_sleptMost_39 : decode cX3_sleptMost 39 = .ok (.iaload, 1) := by decide +kernel
theorem dX3_sleptMost_40 : decode cX3_sleptMost 40 = .ok (.if_icmp .le 5, 3) := by decide +kernel
theorem dX3_sleptMost_43 : decode cX3_sleptMost 43 = .ok (.iload_n 2, 1) := by decide +kernel
theorem dX3_sleptMost_44 : decode cX3_sleptMost 44 = .ok (.istore_n 1, 1) := by decide +kernel
theorem dX3_sleptMost_45 : decode cX3_sleptMost 45 = .ok (.iinc 2 1, 3) := by decide +kernel
theorem dX3_sleptMost_48 : decode cX3_sleptMost 48 = .ok (.goto (-43), 3) := by decide +kernel
theorem dX3_sleptMost_51 : decode cX3_sleptMost 51 = .ok (.iload_n 1, 1) := by decide +kernel
theorem dX3_sleptMost_52 : decode cX3_sleptMost 52 = .ok (.ireturn, 1) := by decide +kernel
theorem dX3_sleptLeast_0 : decode cX3_sleptLeast 0 = .ok (.bipush (-9), 2) := by decide +kernel
theorem dX3_sleptLeast_2 : decode cX3_sleptLeast 2 = .ok (.istore_n 1, 1) := by decide +kernel
theorem dX3_sleptLeast_3 : decode cX3_sleptLeast 3 = .ok (.iconst 0, 1) := by decide +kernel
theorem dX3_sleptLeast_4 : decode cX3_sleptLeast 4 = .ok (.istore_n 2, 1) := by decide +kernel
theorem dX3_sleptLeast_5 : decode cX3_sleptLeast 5 = .ok (.iload_n 2, 1) := by decide +kernel
theorem dX3_sleptLeast_6 : decode cX3_sleptLeast 6 = .ok (.aload_n 0, 1) := by decide +kernel
theorem dX3_sleptLeast_7 : decode cX3_sleptLeast 7 = .ok (.getfield 19, 3) := by decide +kernel
theorem dX3_sleptLeast_10 : decode cX3_sleptLeast 10 = .ok (.getfield 146, 3) := by decide +kernel
theorem dX3_sleptLeast_13 : decode cX3_sleptLeast 13 = .ok (.if_icmp .ge 38, 3) := by decide +kernel
theorem dX3_sleptLeast_16 : decode cX3_sleptLeast 16 = .ok (.iload_n 1, 1) := by decide +kernel
theorem dX3_sleptLeast_17 : decode cX3_sleptLeast 17 = .ok (.bipush (-9), 2) := by decide +kernel
theorem dX3_sleptLeast_19 : decode cX3_sleptLeast 19 = .ok (.if_icmp .eq 24, 3) := by decide +kernel
theorem dX3_sleptLeast_22 : decode cX3_sleptLeast 22 = .ok (.aload_n 0, 1) := by decide +kernel
theorem dX3_sleptLeast_23 : decode cX3_sleptLeast 23 = .ok (.getfield 29, 3) := by decide +kernel
theorem dX3_sleptLeast_26 : decode cX3_sleptLeast 26 = .ok (.getfield 115, 3) := by decide +kernel
theorem dX3_sleptLeast_29 : decode cX3_sleptLeast 29 = .ok (.iload_n 2, 1) := by decide +kernel
theorem dX3_sleptLeast_30 : decode cX3_sleptLeast 30 = .ok (.iaload, 1) := by decide +kernel
theorem dX3_sleptLeast_31 : decode cX3_sleptLeast 31 = .ok (.aload_n 0, 1) := by decide +kernel
theorem dX3_sleptLeast_32 : decode cX3_sleptLeast 32 = .ok (.getfield 29, 3) := by decide +kernel
theorem dX3_sleptLeast_35 : decode cX3_sleptLeast 35 = .ok (.getfield 115, 3) := by decide +kernel
theorem dX3_sleptLeast_38 : decode cX3_sleptLeast 38 = .ok (.iload_n 1, 1) := by decide +kernel
theorem dX3_sleptLeast_39 : decode cX3_sleptLeast 39 = .ok (.iaload, 1) := by decide +kernel
theorem dX3_sleptLeast_40 : decode cX3_sleptLeast 40 = .ok (.if_icmp .ge 5, 3) := by decide +kernel
theorem dX3_sleptLeast_43 : decode cX3_sleptLeast 43 = .ok (.iload_n 2, 1) := by decide +kernel
theorem dX3_sleptLeast_44 : decode cX3_sleptLeast 44 = .ok (.istore_n 1, 1) := by decide +kernel
theorem dX3_sleptLeast_45 : decode cX3_sleptLeast 45 = .ok (.iinc 2 1, 3) := by decide +kernel
theorem dX3_sleptLeast_48 : decode cX3_sleptLeast 48 = .ok (.goto (-43), 3) := by decide +kernel
theorem dX3_sleptLeast_51 : decode cX3_sleptLeast 51 = .ok (.iload_n 1, 1) := by decide +kernel
theorem dX3_sleptLeast_52 : decode cX3_sleptLeast 52 = .ok (.ireturn, 1) := by decide +kernel
theorem dX3_isDistrict_0 : decode cX3_isDistrict 0 = .ok (.iload_n 1, 1) := by decide +kernel
theorem dX3_isDistrict_1 : decode cX3_isDistrict 1 = .ok (.ifCond .lt 18, 3) := by decide +kernel
theorem dX3_isDistrict_4 : decode cX3_isDistrict 4 = .ok (.iload_n 1, 1) := by decide +kernel
theorem dX3_isDistrict_5 : decode cX3_isDistrict 5 = .ok (.aload_n 0, 1) := by decide +kernel
theorem dX3_isDistrict_6 : decode cX3_isDistrict 6 = .ok (.getfield 19, 3) := by decide +kernel
theorem dX3_isDistrict_9 : decode cX3_isDistrict 9 = .ok (.getfield 149, 3) := by decide +kernel
theorem dX3_isDistrict_12 : decode cX3_isDistrict 12 = .ok (.if_icmp .ge 7, 3) := by decide +kernel
theorem dX3_isDistrict_15 : decode cX3_isDistrict 15 = .ok (.iconst 1, 1) := by decide +kernel
theorem dX3_isDistrict_16 : decode cX3_isDistrict 16 = .ok (.goto 4, 3) := by decide +kernel
theorem dX3_isDistrict_19 : decode cX3_isDistrict 19 = .ok (.iconst 0, 1) := by decide +kernel
theorem dX3_isDistrict_20 : decode cX3_isDistrict 20 = .ok (.ireturn, 1) := by decide +kernel
theorem dX3_isCitizen_0 : decode cX3_isCitizen 0 = .ok (.iload_n 1, 1) := by decide +kernel
theorem dX3_isCitizen_1 : decode cX3_isCitizen 1 = .ok (.ifCond .lt 18, 3) := by decide +kernel
theorem dX3_isCitizen_4 : decode cX3_isCitizen 4 = .ok (.iload_n 1, 1) := by decide +kernel
theorem dX3_isCitizen_5 : decode cX3_isCitizen 5 = .ok (.aload_n 0, 1) := by decide +kernel
theorem dX3_isCitizen_6 : decode cX3_isCitizen 6 = .ok (.getfield 19, 3) := by decide +kernel
theorem dX3_isCitizen_9 : decode cX3_isCitizen 9 = .ok (.getfield 146, 3) := by decide +kernel
theorem dX3_isCitizen_12 : decode cX3_isCitizen 12 = .ok (.if_icmp .ge 7, 3) := by decide +kernel
theorem dX3_isCitizen_15 : decode cX3_isCitizen 15 = .ok (.iconst 1, 1) := by decide +kernel
theorem dX3_isCitizen_16 : decode cX3_isCitizen 16 = .ok (.goto 4, 3) := by decide +kernel
theorem dX3_isCitizen_19 : decode cX3_isCitizen 19 = .ok (.iconst 0, 1) := by decide +kernel
theorem dX3_isCitizen_20 : decode cX3_isCitizen 20 = .ok (.ireturn, 1) := by decide +kernel
theorem dX3_calls_0 : decode cX3_calls 0 = .ok (.aload_n 0, 1) := by decide +kernel
theorem dX3_calls_1 : decode cX3_calls 1 = .ok (.iload_n 1, 1) := by decide +kernel
theorem dX3_calls_2 : decode cX3_calls 2 = .ok (.invokevirtual 97, 3) := by decide +kernel
theorem dX3_calls_5 : decode cX3_calls 5 = .ok (.ifCond .eq 14, 3) := by decide +kernel
theorem dX3_calls_8 : decode cX3_calls 8 = .ok (.iload_n 2, 1) := by decide +kernel
theorem dX3_calls_9 : decode cX3_calls 9 = .ok (.ifCond .lt 10, 3) := by decide +kernel
theorem dX3_calls_12 : decode cX3_calls 12 = .ok (.iload_n 2, 1) := by decide +kernel
theorem dX3_calls_13 : decode cX3_calls 13 = .ok (.sipush 255, 3) := by decide +kernel
theorem dX3_calls_16 : decode cX3_calls 16 = .ok (.if_icmp .le 5, 3) := by decide +kernel
theorem dX3_calls_19 : decode cX3_calls 19 = .ok (.iconst (-1), 1) := by decide +kernel
theorem dX3_calls_20 : decode cX3_calls 20 = .ok (.ireturn, 1) := by decide +kernel
theorem dX3_calls_21 : decode cX3_calls 21 = .ok (.aload_n 0, 1) := by decide +kernel
theorem dX3_calls_22 : decode cX3_calls 22 = .ok (.invokevirtual 152, 3) := by decide +kernel
theorem dX3_calls_25 : decode cX3_calls 25 = .ok (.aload_n 0, 1) := by decide +kernel
theorem dX3_calls_26 : decode cX3_calls 26 = .ok (.getfield 29, 3) := by decide +kernel
theorem dX3_calls_29 : decode cX3_calls 29 = .ok (.getfield 112, 3) := by decide +kernel
theorem dX3_calls_32 : decode cX3_calls 32 = .ok (.iload_n 1, 1) := by decide +kernel
theorem dX3_calls_33 : decode cX3_calls 33 = .ok (.iaload, 1) := by decide +kernel
theorem dX3_calls_34 : decode cX3_calls 34 = .ok (.istore_n 3, 1) := by decide +kernel
theorem dX3_calls_35 : decode cX3_calls 35 = .ok (.aload_n 0, 1) := by decide +kernel
theorem dX3_calls_36 : decode cX3_calls 36 = .ok (.getfield 29, 3) := by decide +kernel
theorem dX3_calls_39 : decode cX3_calls 39 = .ok (.getfield 112, 3) := by decide +kernel
theorem dX3_calls_42 : decode cX3_calls 42 = .ok (.iload_n 1, 1) := by decide +kernel
theorem dX3_calls_43 : decode cX3_calls 43 = .ok (.iload_n 2, 1) := by decide +kernel
theorem dX3_calls_44 : decode cX3_calls 44 = .ok (.iastore, 1) := by decide +kernel
theorem dX3_calls_45 : decode cX3_calls 45 = .ok (.iload_n 3, 1) := by decide +kernel
theorem dX3_calls_46 : decode cX3_calls 46 = .ok (.ireturn, 1) := by decide +kernel
theorem dX3_hour_0 : decode cX3_hour 0 = .ok (.aload_n 0, 1) := by decide +kernel
theorem dX3_hour_1 : decode cX3_hour 1 = .ok (.getfield 29, 3) := by decide +kernel
theorem dX3_hour_4 : decode cX3_hour 4 = .ok (.getfield 130, 3) := by decide +kernel
theorem dX3_hour_7 : decode cX3_hour 7 = .ok (.bipush 99, 2) := by decide +kernel
theorem dX3_hour_9 : decode cX3_hour 9 = .ok (.if_icmp .lt 6, 3) := by decide +kernel
theorem dX3_hour_12 : decode cX3_hour 12 = .ok (.bipush (-2), 2) := by decide +kernel
theorem dX3_hour_14 : decode cX3_hour 14 = .ok (.ireturn, 1) := by decide +kernel
theorem dX3_hour_15 : decode cX3_hour 15 = .ok (.aload_n 0, 1) := by decide +kernel
theorem dX3_hour_16 : decode cX3_hour 16 = .ok (.invokevirtual 152, 3) := by decide +kernel
theorem dX3_hour_19 : decode cX3_hour 19 = .ok (.aload_n 0, 1) := by decide +kernel
theorem dX3_hour_20 : decode cX3_hour 20 = .ok (.aload_n 0, 1) := by decide +kernel
theorem dX3_hour_21 : decode cX3_hour 21 = .ok (.getfield 29, 3) := by decide +kernel
theorem dX3_hour_24 : decode cX3_hour 24 = .ok (.iconst (-1), 1) := by decide +kernel
theorem dX3_hour_25 : decode cX3_hour 25 = .ok (.invokevirtual 155, 3) := by decide +kernel
theorem dX3_hour_28 : decode cX3_hour 28 = .ok (.ireturn, 1) := by decide +kernel
theorem dX3_undo_0 : decode cX3_undo 0 = .ok (.aload_n 0, 1) := by decide +kernel
theorem dX3_undo_1 : decode cX3_undo 1 = .ok (.getfield 81, 3) := by decide +kernel
theorem dX3_undo_4 : decode cX3_undo 4 = .ok (.iconst 1, 1) := by decide +kernel
theorem dX3_undo_5 : decode cX3_undo 5 = .ok (.if_icmp .ge 6, 3) := by decide +kernel
theorem dX3_undo_8 : decode cX3_undo 8 = .ok (.bipush (-2), 2) := by decide +kernel
theorem dX3_undo_10 : decode cX3_undo 10 = .ok (.ireturn, 1) := by decide +kernel
theorem dX3_undo_11 : decode cX3_undo 11 = .ok (.aload_n 0, 1) := by decide +kernel
theorem dX3_undo_12 : decode cX3_undo 12 = .ok (.getfield 29, 3) := by decide +kernel
theorem dX3_undo_15 : decode cX3_undo 15 = .ok (.aload_n 0, 1) := by decide +kernel
theorem dX3_undo_16 : decode cX3_undo 16 = .ok (.getfield 36, 3) := by decide +kernel
theorem dX3_undo_19 : decode cX3_undo 19 = .ok (.aload_n 0, 1) := by decide +kernel
theorem dX3_undo_20 : decode cX3_undo 20 = .ok (.getfield 159, 3) := by decide +kernel
theorem dX3_undo_23 : decode cX3_undo 23 = .ok (.aaload, 1) := by decide +kernel
theorem dX3_undo_24 : decode cX3_undo 24 = .ok (.invokevirtual 162, 3) := by decide +kernel
theorem dX3_undo_27 : decode cX3_undo 27 = .ok (.aload_n 0, 1) := by decide +kernel
theorem dX3_undo_28 : decode cX3_undo 28 = .ok (.aload_n 0, 1) := by decide +kernel
theorem dX3_undo_29 : decode cX3_undo 29 = .ok (.getfield 159, 3) := by decide +kernel
theorem dX3_undo_32 : decode cX3_undo 32 = .ok (.bipush 10, 2) := by decide +kernel
theorem dX3_undo_34 : decode cX3_undo 34 = .ok (.iadd, 1) := by decide +kernel
theorem dX3_undo_35 : decode cX3_undo 35 = .ok (.iconst 1, 1) := by decide +kernel
theorem dX3_undo_36 : decode cX3_undo 36 = .ok (.isub, 1) := by decide +kernel
theorem dX3_undo_37 : decode cX3_undo 37 = .ok (.bipush 10, 2) := by decide +kernel
theorem dX3_undo_39 : decode cX3_undo 39 = .ok (.irem, 1) := by decide +kernel
theorem dX3_undo_40 : decode cX3_undo 40 = .ok (.putfield 159, 3) := by decide +kernel
theorem dX3_undo_43 : decode cX3_undo 43 = .ok (.aload_n 0, 1) := by decide +kernel
theorem dX3_undo_44 : decode cX3_undo 44 = .ok (.dup, 1) := by decide +kernel
theorem dX3_undo_45 : decode cX3_undo 45 = .ok (.getfield 81, 3) := by decide +kernel
theorem dX3_undo_48 : decode cX3_undo 48 = .ok (.iconst 1, 1) := by decide +kernel
theorem dX3_undo_49 : decode cX3_undo 49 = .ok (.isub, 1) := by decide +kernel
theorem dX3_undo_50 : decode cX3_undo 50 = .ok (.putfield 81, 3) := by decide +kernel
theorem dX3_undo_53 : decode cX3_undo 53 = .ok (.aload_n 0, 1) := by decide +kernel
theorem dX3_undo_54 : decode cX3_undo 54 = .ok (.getfield 81, 3) := by decide +kernel
theorem dX3_undo_57 : decode cX3_undo 57 = .ok (.ireturn, 1) := by decide +kernel
theorem dX3_remember_0 : decode cX3_remember 0 = .ok (.aload_n 0, 1) := by decide +kernel
theorem dX3_remember_1 : decode cX3_remember 1 = .ok (.aload_n 0, 1) := by decide +kernel
theorem dX3_remember_2 : decode cX3_remember 2 = .ok (.getfield 159, 3) := by decide +kernel
theorem dX3_remember_5 : decode cX3_remember 5 = .ok (.iconst 1, 1) := by decide +kernel
theorem dX3_remember_6 : decode cX3_remember 6 = .ok (.iadd, 1) := by decide +kernel
theorem dX3_remember_7 : decode cX3_remember 7 = .ok (.bipush 10, 2) := by decide +kernel
theorem dX3_remember_9 : decode cX3_remember 9 = .ok (.irem, 1) := by decide +kernel
theorem dX3_remember_10 : decode cX3_remember 10 = .ok (.putfield 159, 3) := by decide +kernel
theorem dX3_remember_13 : decode cX3_remember 13 = .ok (.aload_n 0, 1) := by decide +kernel
theorem dX3_remember_14 : decode cX3_remember 14 = .ok (.getfield 36, 3) := by decide +kernel
theorem dX3_remember_17 : decode cX3_remember 17 = .ok (.aload_n 0, 1) := by decide +kernel
theorem dX3_remember_18 : decode cX3_remember 18 = .ok (.getfield 159, 3) := by decide +kernel
theorem dX3_remember_21 : decode cX3_remember 21 = .ok (.aaload, 1) := by decide +kernel
theorem dX3_remember_22 : decode cX3_remember 22 = .ok (.aload_n 0, 1) := by decide +kernel
theorem dX3_remember_23 : decode cX3_remember 23 = .ok (.getfield 29, 3) := by decide +kernel
theorem dX3_remember_26 : decode cX3_remember 26 = .ok (.invokevirtual 162, 3) := by decide +kernel
theorem dX3_remember_29 : decode cX3_remember 29 = .ok (.aload_n 0, 1) := by decide +kernel
theorem dX3_remember_30 : decode cX3_remember 30 = .ok (.aload_n 0, 1) := by decide +kernel
theorem dX3_remember_31 : decode cX3_remember 31 = .ok (.getfield 81, 3) := by decide +kernel
theorem dX3_remember_34 : decode cX3_remember 34 = .ok (.iconst 1, 1) := by decide +kernel
theorem dX3_remember_35 : decode cX3_remember 35 = .ok (.iadd, 1) := by decide +kernel
theorem dX3_remember_36 : decode cX3_remember 36 = .ok (.bipush 10, 2) := by decide +kernel
theorem dX3_remember_38 : decode cX3_remember 38 = .ok (.invokestatic 166, 3) := by decide +kernel
theorem dX3_remember_41 : decode cX3_remember 41 = .ok (.putfield 81, 3) := by decide +kernel
theorem dX3_remember_44 : decode cX3_remember 44 = .ok (.return_, 1) := by decide +kernel
theorem dX3_goBy_0 : decode cX3_goBy 0 = .ok (.aload_n 0, 1) := by decide +kernel
theorem dX3_goBy_1 : decode cX3_goBy 1 = .ok (.getfield 19, 3) := by decide +kernel
theorem dX3_goBy_4 : decode cX3_goBy 4 = .ok (.aload_n 1, 1) := by decide +kernel
theorem dX3_goBy_5 : decode cX3_goBy 5 = .ok (.iload_n 2, 1) := by decide +kernel
theorem dX3_goBy_6 : decode cX3_goBy 6 = .ok (.invokevirtual 172, 3) := by decide +kernel
theorem dX3_goBy_9 : decode cX3_goBy 9 = .ok (.istore_n 3, 1) := by decide +kernel
theorem dX3_goBy_10 : decode cX3_goBy 10 = .ok (.aload_n 1, 1) := by decide +kernel
theorem dX3_goBy_11 : decode cX3_goBy 11 = .ok (.aload_n 0, 1) := by decide +kernel
theorem dX3_goBy_12 : decode cX3_goBy 12 = .ok (.getfield 19, 3) := by decide +kernel
theorem dX3_goBy_15 : decode cX3_goBy 15 = .ok (.iload_n 3, 1) := by decide +kernel
theorem dX3_goBy_16 : decode cX3_goBy 16 = .ok (.invokevirtual 175, 3) := by decide +kernel
theorem dX3_goBy_19 : decode cX3_goBy 19 = .ok (.iload_n 3, 1) := by decide +kernel
theorem dX3_goBy_20 : decode cX3_goBy 20 = .ok (.ireturn, 1) := by decide +kernel
theorem dX3_lapses_0 : decode cX3_lapses 0 = .ok (.iload_n 1, 1) := by decide +kernel
theorem dX3_lapses_1 : decode cX3_lapses 1 = .ok (.invokestatic 179, 3) := by decide +kernel
theorem dX3_lapses_4 : decode cX3_lapses 4 = .ok (.aload_n 0, 1) := by decide +kernel
theorem dX3_lapses_5 : decode cX3_lapses 5 = .ok (.getfield 19, 3) := by decide +kernel
theorem dX3_lapses_8 : decode cX3_lapses 8 = .ok (.getfield 185, 3) := by decide +kernel
theorem dX3_lapses_11 : decode cX3_lapses 11 = .ok (.if_icmp .ge 7, 3) := by decide +kernel
theorem dX3_lapses_14 : decode cX3_lapses 14 = .ok (.iconst 1, 1) := by decide +kernel
theorem dX3_lapses_15 : decode cX3_lapses 15 = .ok (.goto 4, 3) := by decide +kernel
theorem dX3_lapses_18 : decode cX3_lapses 18 = .ok (.iconst 0, 1) := by decide +kernel
theorem dX3_lapses_19 : decode cX3_lapses 19 = .ok (.ireturn, 1) := by decide +kernel
theorem dX3_asleepIn_0 : decode cX3_asleepIn 0 = .ok (.iload_n 1, 1) := by decide +kernel
theorem dX3_asleepIn_1 : decode cX3_asleepIn 1 = .ok (.ifCond .lt 9, 3) := by decide +kernel
theorem dX3_asleepIn_4 : decode cX3_asleepIn 4 = .ok (.iload_n 1, 1) := by decide +kernel
theorem dX3_asleepIn_5 : decode cX3_asleepIn 5 = .ok (.bipush 80, 2) := by decide +kernel
theorem dX3_asleepIn_7 : decode cX3_asleepIn 7 = .ok (.if_icmp .le 5, 3) := by decide +kernel
theorem dX3_asleepIn_10 : decode cX3_asleepIn 10 = .ok (.iconst (-1), 1) := by decide +kernel
theorem dX3_asleepIn_11 : decode cX3_asleepIn 11 = .ok (.ireturn, 1) := by decide +kernel
theorem dX3_asleepIn_12 : decode cX3_asleepIn 12 = .ok (.aload_n 0, 1) := by decide +kernel
theorem dX3_asleepIn_13 : decode cX3_asleepIn 13 = .ok (.getfield 33, 3) := by decide +kernel
theorem dX3_asleepIn_16 : decode cX3_asleepIn 16 = .ok (.aload_n 0, 1) := by decide +kernel
theorem dX3_asleepIn_17 : decode cX3_asleepIn 17 = .ok (.getfield 29, 3) := by decide +kernel
theorem dX3_asleepIn_20 : decode cX3_asleepIn 20 = .ok (.invokevirtual 162, 3) := by decide +kernel
theorem dX3_asleepIn_23 : decode cX3_asleepIn 23 = .ok (.iconst 0, 1) := by decide +kernel
theorem dX3_asleepIn_24 : decode cX3_asleepIn 24 = .ok (.istore_n 2, 1) := by decide +kernel
theorem dX3_asleepIn_25 : decode cX3_asleepIn 25 = .ok (.iconst 0, 1) := by decide +kernel
theorem dX3_asleepIn_26 : decode cX3_asleepIn 26 = .ok (.istore_n 3, 1) := by decide +kernel
theorem dX3_asleepIn_27 : decode cX3_asleepIn 27 = .ok (.iload_n 3, 1) := by decide +kernel
theorem dX3_asleepIn_28 : decode cX3_asleepIn 28 = .ok (.iload_n 1, 1) := by decide +kernel
theorem dX3_asleepIn_29 : decode cX3_asleepIn 29 = .ok (.if_icmp .gt 19, 3) := by decide +kernel
theorem dX3_asleepIn_32 : decode cX3_asleepIn 32 = .ok (.aload_n 0, 1) := by decide +kernel
theorem dX3_asleepIn_33 : decode cX3_asleepIn 33 = .ok (.aload_n 0, 1) := by decide +kernel
theorem dX3_asleepIn_34 : decode cX3_asleepIn 34 = .ok (.getfield 33, 3) := by decide +kernel
theorem dX3_asleepIn_37 : decode cX3_asleepIn 37 = .ok (.iconst (-1), 1) := by decide +kernel
theorem dX3_asleepIn_38 : decode cX3_asleepIn 38 = .ok (.invokevirtual 155, 3) := by decide +kernel
theorem dX3_asleepIn_41 : decode cX3_asleepIn 41 = .ok (.istore_n 2, 1) := by decide +kernel
theorem dX3_asleepIn_42 : decode cX3_asleepIn 42 = .ok (.iinc 3 1, 3) := by decide +kernel
theorem dX3_asleepIn_45 : decode cX3_asleepIn 45 = .ok (.goto (-18), 3) := by decide +kernel
theorem dX3_asleepIn_48 : decode cX3_asleepIn 48 = .ok (.iload_n 2, 1) := by decide +kernel
theorem dX3_asleepIn_49 : decode cX3_asleepIn 49 = .ok (.ireturn, 1) := by decide +kernel
theorem dX3_lapse_0 : decode cX3_lapse 0 = .ok (.aload_n 0, 1) := by decide +kernel
theorem dX3_lapse_1 : decode cX3_lapse 1 = .ok (.bipush 81, 2) := by decide +kernel
theorem dX3_lapse_3 : decode cX3_lapse 3 = .ok (.iconst (-1), 1) := by decide +kernel
theorem dX3_lapse_4 : decode cX3_lapse 4 = .ok (.invokevirtual 188, 3) := by decide +kernel
theorem dX3_lapse_7 : decode cX3_lapse 7 = .ok (.ireturn, 1) := by decide +kernel
theorem dX3_firstLapse_0 : decode cX3_firstLapse 0 = .ok (.aload_n 0, 1) := by decide +kernel
theorem dX3_firstLapse_1 : decode cX3_firstLapse 1 = .ok (.getfield 33, 3) := by decide +kernel
theorem dX3_firstLapse_4 : decode cX3_firstLapse 4 = .ok (.aload_n 0, 1) := by decide +kernel
theorem dX3_firstLapse_5 : decode cX3_firstLapse 5 = .ok (.getfield 29, 3) := by decide +kernel
theorem dX3_firstLapse_8 : decode cX3_firstLapse 8 = .ok (.invokevirtual 162, 3) := by decide +kernel
theorem dX3_firstLapse_11 : decode cX3_firstLapse 11 = .ok (.iconst 0, 1) := by decide +kernel
theorem dX3_firstLapse_12 : decode cX3_firstLapse 12 = .ok (.istore_n 3, 1) := by decide +kernel
theorem dX3_firstLapse_13 : decode cX3_firstLapse 13 = .ok (.iload_n 3, 1) := by decide +kernel
theorem dX3_firstLapse_14 : decode cX3_firstLapse 14 = .ok (.iload_n 1, 1) := by decide +kernel
theorem dX3_firstLapse_15 : decode cX3_firstLapse 15 = .ok (.if_icmp .ge 27, 3) := by decide +kernel
theorem dX3_firstLapse_18 : decode cX3_firstLapse 18 = .ok (.aload_n 0, 1) := by decide +kernel
theorem dX3_firstLapse_19 : decode cX3_firstLapse 19 = .ok (.aload_n 0, 1) := by decide +kernel
theorem dX3_firstLapse_20 : decode cX3_firstLapse 20 = .ok (.aload_n 0, 1) := by decide +kernel
theorem dX3_firstLapse_21 : decode cX3_firstLapse 21 = .ok (.getfield 33, 3) := by decide +kernel
theorem dX3_firstLapse_24 : decode cX3_firstLapse 24 = .ok (.iload_n 2, 1) := by decide +kernel
theorem dX3_firstLapse_25 : decode cX3_firstLapse 25 = .ok (.invokevirtual 155, 3) := by decide +kernel
theorem dX3_firstLapse_28 : decode cX3_firstLapse 28 = .ok (.invokevirtual 191, 3) := by decide +kernel
theorem dX3_firstLapse_31 : decode cX3_firstLapse 31 = .ok (.ifCond .eq 5, 3) := by decide +kernel
theorem dX3_firstLapse_34 : decode cX3_firstLapse 34 = .ok (.iload_n 3, 1) := by decide +kernel
theorem dX3_firstLapse_35 : decode cX3_firstLapse 35 = .ok (.ireturn, 1) := by decide +kernel
theorem dX3_firstLapse_36 : decode cX3_firstLapse 36 = .ok (.iinc 3 1, 3) := by decide +kernel
theorem dX3_firstLapse_39 : decode cX3_firstLapse 39 = .ok (.goto (-26), 3) := by decide +kernel
theorem dX3_firstLapse_42 : decode cX3_firstLapse 42 = .ok (.bipush (-9), 2) := by decide +kernel
theorem dX3_firstLapse_44 : decode cX3_firstLapse 44 = .ok (.ireturn, 1) := by decide +kernel
theorem dX3_callUp_0 : decode cX3_callUp 0 = .ok (.iload_n 1, 1) := by decide +kernel
theorem dX3_callUp_1 : decode cX3_callUp 1 = .ok (.iconst 1, 1) := by decide +kernel
theorem dX3_callUp_2 : decode cX3_callUp 2 = .ok (.if_icmp .lt 13, 3) := by decide +kernel
theorem dX3_callUp_5 : decode cX3_callUp 5 = .ok (.iload_n 1, 1) := by decide +kernel
theorem dX3_callUp_6 : decode cX3_callUp 6 = .ok (.iconst 3, 1) := by decide +kernel
theorem dX3_callUp_7 : decode cX3_callUp 7 = .ok (.if_icmp .gt 8, 3) := by decide +kernel
theorem dX3_callUp_10 : decode cX3_callUp 10 = .ok (.iload_n 2, 1) := by decide +kernel
theorem dX3_callUp_11 : decode cX3_callUp 11 = .ok (.iconst (-1), 1) := by decide +kernel
theorem dX3_callUp_12 : decode cX3_callUp 12 = .ok (.if_icmp .ge 5, 3) := by decide +kernel
theorem dX3_callUp_15 : decode cX3_callUp 15 = .ok (.iconst (-1), 1) := by decide +kernel
theorem dX3_callUp_16 : decode cX3_callUp 16 = .ok (.ireturn, 1) := by decide +kernel
theorem dX3_callUp_17 : decode cX3_callUp 17 = .ok (.iload_n 2, 1) := by decide +kernel
theorem dX3_callUp_18 : decode cX3_callUp 18 = .ok (.iload_n 1, 1) := by decide +kernel
theorem dX3_callUp_19 : decode cX3_callUp 19 = .ok (.if_icmp .lt 6, 3) := by decide +kernel
theorem dX3_callUp_22 : decode cX3_callUp 22 = .ok (.bipush (-5), 2) := by decide +kernel
theorem dX3_callUp_24 : decode cX3_callUp 24 = .ok (.ireturn, 1) := by decide +kernel
theorem dX3_callUp_25 : decode cX3_callUp 25 = .ok (.aload_n 0, 1) := by decide +kernel
theorem dX3_callUp_26 : decode cX3_callUp 26 = .ok (.getfield 29, 3) := by decide +kernel
theorem dX3_callUp_29 : decode cX3_callUp 29 = .ok (.getfield 103, 3) := by decide +kernel
theorem dX3_callUp_32 : decode cX3_callUp 32 = .ok (.iconst 0, 1) := by decide +kernel
theorem dX3_callUp_33 : decode cX3_callUp 33 = .ok (.aload_n 0, 1) := by decide +kernel
theorem dX3_callUp_34 : decode cX3_callUp 34 = .ok (.getfield 59, 3) := by decide +kernel
theorem dX3_callUp_37 : decode cX3_callUp 37 = .ok (.iconst 0, 1) := by decide +kernel
theorem dX3_callUp_38 : decode cX3_callUp 38 = .ok (.aaload, 1) := by decide +kernel
theorem dX3_callUp_39 : decode cX3_callUp 39 = .ok (.iconst 0, 1) := by decide +kernel
theorem dX3_callUp_40 : decode cX3_callUp 40 = .ok (.bipush 6, 2) := by decide +kernel
theorem dX3_callUp_42 : decode cX3_callUp 42 = .ok (.invokestatic 193, 3) := by decide +kernel
theorem dX3_callUp_45 : decode cX3_callUp 45 = .ok (.aload_n 0, 1) := by decide +kernel
theorem dX3_callUp_46 : decode cX3_callUp 46 = .ok (.iload_n 1, 1) := by decide +kernel
theorem dX3_callUp_47 : decode cX3_callUp 47 = .ok (.invokevirtual 199, 3) := by decide +kernel
theorem dX3_callUp_50 : decode cX3_callUp 50 = .ok (.ifCond .eq 12, 3) := by decide +kernel
theorem dX3_callUp_53 : decode cX3_callUp 53 = .ok (.aload_n 0, 1) := by decide +kernel
theorem dX3_callUp_54 : decode cX3_callUp 54 = .ok (.iconst 0, 1) := by decide +kernel
theorem dX3_callUp_55 : decode cX3_callUp 55 = .ok (.iload_n 1, 1) := by decide +kernel
theorem dX3_callUp_56 : decode cX3_callUp 56 = .ok (.invokevirtual 202, 3) := by decide +kernel
theorem dX3_callUp_59 : decode cX3_callUp 59 = .ok (.ifCond .ne 6, 3) := by decide +kernel
theorem dX3_callUp_62 : decode cX3_callUp 62 = .ok (.bipush (-9), 2) := by decide +kernel
theorem dX3_callUp_64 : decode cX3_callUp 64 = .ok (.ireturn, 1) := by decide +kernel
theorem dX3_callUp_65 : decode cX3_callUp 65 = .ok (.iload_n 2, 1) := by decide +kernel
theorem dX3_callUp_66 : decode cX3_callUp 66 = .ok (.iconst (-1), 1) := by decide +kernel
theorem dX3_callUp_67 : decode cX3_callUp 67 = .ok (.if_icmp .ne 15, 3) := by decide +kernel
theorem dX3_callUp_70 : decode cX3_callUp 70 = .ok (.iload_n 1, 1) := by decide +kernel
theorem dX3_callUp_71 : decode cX3_callUp 71 = .ok (.aload_n 0, 1) := by decide +kernel
theorem dX3_callUp_72 : decode cX3_callUp 72 = .ok (.getfield 19, 3) := by decide +kernel
theorem dX3_callUp_75 : decode cX3_callUp 75 = .ok (.getfield 185, 3) := by decide +kernel
theorem dX3_callUp_78 : decode cX3_callUp 78 = .ok (.imul, 1) := by decide +kernel
theorem dX3_callUp_79 : decode cX3_callUp 79 = .ok (.goto 9, 3) := by decide +kernel
theorem dX3_callUp_82 : decode cX3_callUp 82 = .ok (.aload_n 0, 1) := by decide +kernel
theorem dX3_callUp_83 : decode cX3_callUp 83 = .ok (.getfield 54, 3) := by decide +kernel
theorem dX3_callUp_86 : decode cX3_callUp 86 = .ok (.iload_n 2, 1) := by decide +kernel
theorem dX3_callUp_87 : decode cX3_callUp 87 = .ok (.iaload, 1) := by decide +kernel
theorem dX3_callUp_88 : decode cX3_callUp 88 = .ok (.ireturn, 1) := by decide +kernel
theorem dX3_enoughInEach_0 : decode cX3_enoughInEach 0 = .ok (.iconst 0, 1) := by decide +kernel
theorem dX3_enoughInEach_1 : decode cX3_enoughInEach 1 = .ok (.istore_n 2, 1) := by decide +kernel
theorem dX3_enoughInEach_2 : decode cX3_enoughInEach 2 = .ok (.iload_n 2, 1) := by decide +kernel
theorem dX3_enoughInEach_3 : decode cX3_enoughInEach 3 = .ok (.iload_n 1, 1) := by decide +kernel
theorem dX3_enoughInEach_4 : decode cX3_enoughInEach 4 = .ok (.if_icmp .ge 63, 3) := by decide +kernel
theorem dX3_enoughInEach_7 : decode cX3_enoughInEach 7 = .ok (.aload_n 0, 1) := by decide +kernel
theorem dX3_enoughInEach_8 : decode cX3_enoughInEach 8 = .ok (.getfield 19, 3) := by decide +kernel
theorem dX3_enoughInEach_11 : decode cX3_enoughInEach 11 = .ok (.getfield 206, 3) := by decide +kernel
theorem dX3_enoughInEach_14 : decode cX3_enoughInEach 14 = .ok (.aload_n 0, 1) := by decide +kernel
theorem dX3_enoughInEach_15 : decode cX3_enoughInEach 15 = .ok (.iload_n 2, 1) := by decide +kernel
theorem dX3_enoughInEach_16 : decode cX3_enoughInEach 16 = .ok (.invokevirtual 209, 3) := by decide +kernel
theorem dX3_enoughInEach_19 : decode cX3_enoughInEach 19 = .ok (.iaload, 1) := by decide +kernel
theorem dX3_enoughInEach_20 : decode cX3_enoughInEach 20 = .ok (.istore_n 3, 1) := by decide +kernel
theorem dX3_enoughInEach_21 : decode cX3_enoughInEach 21 = .ok (.iload_n 2, 1) := by decide +kernel
theorem dX3_enoughInEach_22 : decode cX3_enoughInEach 22 = .ok (.ifCond .ne 19, 3) := by decide +kernel
theorem dX3_enoughInEach_25 : decode cX3_enoughInEach 25 = .ok (.iload_n 3, 1) := by decide +kernel
theorem dX3_enoughInEach_26 : decode cX3_enoughInEach 26 = .ok (.aload_n 0, 1) := by decide +kernel
theorem dX3_enoughInEach_27 : decode cX3_enoughInEach 27 = .ok (.getfield 19, 3) := by decide +kernel
theorem dX3_enoughInEach_30 : decode cX3_enoughInEach 30 = .ok (.aload_n 0, 1) := by decide +kernel
theorem dX3_enoughInEach_31 : decode cX3_enoughInEach 31 = .ok (.getfield 59, 3) := by decide +kernel
theorem dX3_enoughInEach_34 : decode cX3_enoughInEach 34 = .ok (.iconst 0, 1) := by decide +kernel
theorem dX3_enoughInEach_35 : decode cX3_enoughInEach 35 = .ok (.aaload, 1) := by decide +kernel
theorem dX3_enoughInEach_36 : decode cX3_enoughInEach 36 = .ok (.invokevirtual 212, 3) := by decide +kernel
theorem dX3_enoughInEach_39 : decode cX3_enoughInEach 39 = .ok (.iand, 1) := by decide +kernel
theorem dX3_enoughInEach_40 : decode cX3_enoughInEach 40 = .ok (.istore_n 3, 1) := by decide +kernel
theorem dX3_enoughInEach_41 : decode cX3_enoughInEach 41 = .ok (.aload_n 0, 1) := by decide +kernel
theorem dX3_enoughInEach_42 : decode cX3_enoughInEach 42 = .ok (.getfield 19, 3) := by decide +kernel
theorem dX3_enoughInEach_45 : decode cX3_enoughInEach 45 = .ok (.iload_n 3, 1) := by decide +kernel
theorem dX3_enoughInEach_46 : decode cX3_enoughInEach 46 = .ok (.invokevirtual 216, 3) := by decide +kernel
theorem dX3_enoughInEach_49 : decode cX3_enoughInEach 49 = .ok (.aload_n 0, 1) := by decide +kernel
theorem dX3_enoughInEach_50 : decode cX3_enoughInEach 50 = .ok (.getfield 19, 3) := by decide +kernel
theorem dX3_enoughInEach_53 : decode cX3_enoughInEach 53 = .ok (.getfield 185, 3) := by decide +kernel
theorem dX3_enoughInEach_56 : decode cX3_enoughInEach 56 = .ok (.if_icmp .ge 5, 3) := by decide +kernel
theorem dX3_enoughInEach_59 : decode cX3_enoughInEach 59 = .ok (.iconst 0, 1) := by decide +kernel
theorem dX3_enoughInEach_60 : decode cX3_enoughInEach 60 = .ok (.ireturn, 1) := by decide +kernel
theorem dX3_enoughInEach_61 : decode cX3_enoughInEach 61 = .ok (.iinc 2 1, 3) := by decide +kernel
theorem dX3_enoughInEach_64 : decode cX3_enoughInEach 64 = .ok (.goto (-62), 3) := by decide +kernel
theorem dX3_enoughInEach_67 : decode cX3_enoughInEach 67 = .ok (.iconst 1, 1) := by decide +kernel
theorem dX3_enoughInEach_68 : decode cX3_enoughInEach 68 = .ok (.ireturn, 1) := by decide +kernel
theorem dX3_callUpFrom_0 : decode cX3_callUpFrom 0 = .ok (.iload_n 1, 1) := by decide +kernel
theorem dX3_callUpFrom_1 : decode cX3_callUpFrom 1 = .ok (.iload_n 2, 1) := by decide +kernel
theorem dX3_callUpFrom_2 : decode cX3_callUpFrom 2 = .ok (.if_icmp .ge 8, 3) := by decide +kernel
theorem dX3_callUpFrom_5 : decode cX3_callUpFrom 5 = .ok (.iload_n 1, 1) := by decide +kernel
theorem dX3_callUpFrom_6 : decode cX3_callUpFrom 6 = .ok (.iconst 3, 1) := by decide +kernel
theorem dX3_callUpFrom_7 : decode cX3_callUpFrom 7 = .ok (.if_icmp .lt 5, 3) := by decide +kernel
theorem dX3_callUpFrom_10 : decode cX3_callUpFrom 10 = .ok (.iconst 1, 1) := by decide +kernel
theorem dX3_callUpFrom_11 : decode cX3_callUpFrom 11 = .ok (.ireturn, 1) := by decide +kernel
theorem dX3_callUpFrom_12 : decode cX3_callUpFrom 12 = .ok (.aload_n 0, 1) := by decide +kernel
theorem dX3_callUpFrom_13 : decode cX3_callUpFrom 13 = .ok (.getfield 19, 3) := by decide +kernel
theorem dX3_callUpFrom_16 : decode cX3_callUpFrom 16 = .ok (.getfield 206, 3) := by decide +kernel
theorem dX3_callUpFrom_19 : decode cX3_callUpFrom 19 = .ok (.aload_n 0, 1) := by decide +kernel
theorem dX3_callUpFrom_20 : decode cX3_callUpFrom 20 = .ok (.iload_n 1, 1) := by decide +kernel
theorem dX3_callUpFrom_21 : decode cX3_callUpFrom 21 = .ok (.invokevirtual 209, 3) := by decide +kernel
theorem dX3_callUpFrom_24 : decode cX3_callUpFrom 24 = .ok (.iaload, 1) := by decide +kernel
theorem dX3_callUpFrom_25 : decode cX3_callUpFrom 25 = .ok (.aload_n 0, 1) := by decide +kernel
theorem dX3_callUpFrom_26 : decode cX3_callUpFrom 26 = .ok (.getfield 19, 3) := by decide +kernel
theorem dX3_callUpFrom_29 : decode cX3_callUpFrom 29 = .ok (.aload_n 0, 1) := by decide +kernel
theorem dX3_callUpFrom_30 : decode cX3_callUpFrom 30 = .ok (.getfield 59, 3) := by decide +kernel
theorem dX3_callUpFrom_33 : decode cX3_callUpFrom 33 = .ok (.iload_n 1, 1) := by decide +kernel
theorem dX3_callUpFrom_34 : decode cX3_callUpFrom 34 = .ok (.aaload, 1) := by decide +kernel
theorem dX3_callUpFrom_35 : decode cX3_callUpFrom 35 = .ok (.invokevirtual 212, 3) := by decide +kernel
theorem dX3_callUpFrom_38 : decode cX3_callUpFrom 38 = .ok (.iand, 1) := by decide +kernel
theorem dX3_callUpFrom_39 : decode cX3_callUpFrom 39 = .ok (.istore_n 3, 1) := by decide +kernel
theorem dX3_callUpFrom_40 : decode cX3_callUpFrom 40 = .ok (.iconst 0, 1) := by decide +kernel
theorem dX3_callUpFrom_41 : decode cX3_callUpFrom 41 = .ok (.istore 4, 2) := by decide +kernel
theorem dX3_callUpFrom_43 : decode cX3_callUpFrom 43 = .ok (.iload 4, 2) := by decide +kernel
theorem dX3_callUpFrom_45 : decode cX3_callUpFrom 45 = .ok (.bipush 64, 2) := by decide +kernel
theorem dX3_callUpFrom_47 : decode cX3_callUpFrom 47 = .ok (.if_icmp .ge 95, 3) := by decide +kernel
theorem dX3_callUpFrom_50 : decode cX3_callUpFrom 50 = .ok (.iload 4, 2) := by decide +kernel
theorem dX3_callUpFrom_52 : decode cX3_callUpFrom 52 = .ok (.iload_n 3, 1) := by decide +kernel
theorem dX3_callUpFrom_53 : decode cX3_callUpFrom 53 = .ok (.iconst (-1), 1) := by decide +kernel
theorem dX3_callUpFrom_54 : decode cX3_callUpFrom 54 = .ok (.ixor, 1) := by decide +kernel
theorem dX3_callUpFrom_55 : decode cX3_callUpFrom 55 = .ok (.iand, 1) := by decide +kernel
theorem dX3_callUpFrom_56 : decode cX3_callUpFrom 56 = .ok (.ifCond .ne 80, 3) := by decide +kernel
theorem dX3_callUpFrom_59 : decode cX3_callUpFrom 59 = .ok (.iload 4, 2) := by decide +kernel
theorem dX3_callUpFrom_61 : decode cX3_callUpFrom 61 = .ok (.invokestatic 179, 3) := by decide +kernel
theorem dX3_callUpFrom_64 : decode cX3_callUpFrom 64 = .ok (.aload_n 0, 1) := by decide +kernel
theorem dX3_callUpFrom_65 : decode cX3_callUpFrom 65 = .ok (.getfield 19, 3) := by decide +kernel
theorem dX3_callUpFrom_68 : decode cX3_callUpFrom 68 = .ok (.getfield 185, 3) := by decide +kernel
theorem dX3_callUpFrom_71 : decode cX3_callUpFrom 71 = .ok (.if_icmp .ne 65, 3) := by decide +kernel
theorem dX3_callUpFrom_74 : decode cX3_callUpFrom 74 = .ok (.aload_n 0, 1) := by decide +kernel
theorem dX3_callUpFrom_75 : decode cX3_callUpFrom 75 = .ok (.getfield 19, 3) := by decide +kernel
theorem dX3_callUpFrom_78 : decode cX3_callUpFrom 78 = .ok (.iload 4, 2) := by decide +kernel
theorem dX3_callUpFrom_80 : decode cX3_callUpFrom 80 = .ok (.invokevirtual 216, 3) := by decide +kernel
theorem dX3_callUpFrom_83 : decode cX3_callUpFrom 83 = .ok (.aload_n 0, 1) := by decide +kernel
theorem dX3_callUpFrom_84 : decode cX3_callUpFrom 84 = .ok (.getfield 19, 3) := by decide +kernel
theorem dX3_callUpFrom_87 : decode cX3_callUpFrom 87 = .ok (.getfield 185, 3) := by decide +kernel
theorem dX3_callUpFrom_90 : decode cX3_callUpFrom 90 = .ok (.if_icmp .eq 6, 3) := by decide +kernel
theorem dX3_callUpFrom_93 : decode cX3_callUpFrom 93 = .ok (.goto 43, 3) := by decide +kernel
theorem dX3_callUpFrom_96 : decode cX3_callUpFrom 96 = .ok (.aload_n 0, 1) := by decide +kernel
theorem dX3_callUpFrom_97 : decode cX3_callUpFrom 97 = .ok (.getfield 54, 3) := by decide +kernel
theorem dX3_callUpFrom_100 : decode cX3_callUpFrom 100 = .ok (.iload_n 1, 1) := by decide +kernel
theorem dX3_callUpFrom_101 : decode cX3_callUpFrom 101 = .ok (.iload 4, 2) := by decide +kernel
theorem dX3_callUpFrom_103 : decode cX3_callUpFrom 103 = .ok (.iastore, 1) := by decide +kernel
theorem dX3_callUpFrom_104 : decode cX3_callUpFrom 104 = .ok (.aload_n 0, 1) := by decide +kernel
theorem dX3_callUpFrom_105 : decode cX3_callUpFrom 105 = .ok (.getfield 59, 3) := by decide +kernel
theorem dX3_callUpFrom_108 : decode cX3_callUpFrom 108 = .ok (.iload_n 1, 1) := by decide +kernel
theorem dX3_callUpFrom_109 : decode cX3_callUpFrom 109 = .ok (.aaload, 1) := by decide +kernel
theorem dX3_callUpFrom_110 : decode cX3_callUpFrom 110 = .ok (.iload 4, 2) := by decide +kernel
theorem dX3_callUpFrom_112 : decode cX3_callUpFrom 112 = .ok (.aload_n 0, 1) := by decide +kernel
theorem dX3_callUpFrom_113 : decode cX3_callUpFrom 113 = .ok (.getfield 59, 3) := by decide +kernel
theorem dX3_callUpFrom_116 : decode cX3_callUpFrom 116 = .ok (.iload_n 1, 1) := by decide +kernel
theorem dX3_callUpFrom_117 : decode cX3_callUpFrom 117 = .ok (.iconst 1, 1) := by decide +kernel
theorem dX3_callUpFrom_118 : decode cX3_callUpFrom 118 = .ok (.iadd, 1) := by decide +kernel
theorem dX3_callUpFrom_119 : decode cX3_callUpFrom 119 = .ok (.aaload, 1) := by decide +kernel
theorem dX3_callUpFrom_120 : decode cX3_callUpFrom 120 = .ok (.invokestatic 219, 3) := by decide +kernel
theorem dX3_callUpFrom_123 : decode cX3_callUpFrom 123 = .ok (.aload_n 0, 1) := by decide +kernel
theorem dX3_callUpFrom_124 : decode cX3_callUpFrom 124 = .ok (.iload_n 1, 1) := by decide +kernel
theorem dX3_callUpFrom_125 : decode cX3_callUpFrom 125 = .ok (.iconst 1, 1) := by decide +kernel
theorem dX3_callUpFrom_126 : decode cX3_callUpFrom 126 = .ok (.iadd, 1) := by decide +kernel
theorem dX3_callUpFrom_127 : decode cX3_callUpFrom 127 = .ok (.iload_n 2, 1) := by decide +kernel
theorem dX3_callUpFrom_128 : decode cX3_callUpFrom 128 = .ok (.invokevirtual 202, 3) := by decide +kernel
theorem dX3_callUpFrom_131 : decode cX3_callUpFrom 131 = .ok (.ifCond .eq 5, 3) := by decide +kernel
theorem dX3_callUpFrom_134 : decode cX3_callUpFrom 134 = .ok (.iconst 1, 1) := by decide +kernel
theorem dX3_callUpFrom_135 : decode cX3_callUpFrom 135 = .ok (.ireturn, 1) := by decide +kernel
theorem dX3_callUpFrom_136 : decode cX3_callUpFrom 136 = .ok (.iinc 4 1, 3) := by decide +kernel
theorem dX3_callUpFrom_139 : decode cX3_callUpFrom 139 = .ok (.goto (-96), 3) := by decide +kernel
theorem dX3_callUpFrom_142 : decode cX3_callUpFrom 142 = .ok (.iconst 0, 1) := by decide +kernel
theorem dX3_callUpFrom_143 : decode cX3_callUpFrom 143 = .ok (.ireturn, 1) := by decide +kernel
theorem dX3_hourAhead_0 : decode cX3_hourAhead 0 = .ok (.aload_n 0, 1) := by decide +kernel
theorem dX3_hourAhead_1 : decode cX3_hourAhead 1 = .ok (.getfield 29, 3) := by decide +kernel
theorem dX3_hourAhead_4 : decode cX3_hourAhead 4 = .ok (.getfield 133, 3) := by decide +kernel
theorem dX3_hourAhead_7 : decode cX3_hourAhead 7 = .ok (.iload_n 1, 1) := by decide +kernel
theorem dX3_hourAhead_8 : decode cX3_hourAhead 8 = .ok (.iadd, 1) := by decide +kernel
theorem dX3_hourAhead_9 : decode cX3_hourAhead 9 = .ok (.bipush 8, 2) := by decide +kernel
theorem dX3_hourAhead_11 : decode cX3_hourAhead 11 = .ok (.irem, 1) := by decide +kernel
theorem dX3_hourAhead_12 : decode cX3_hourAhead 12 = .ok (.ireturn, 1) := by decide +kernel
theorem dX3_tire_0 : decode cX3_tire 0 = .ok (.iconst 0, 1) := by decide +kernel
theorem dX3_tire_1 : decode cX3_tire 1 = .ok (.istore_n 3, 1) := by decide +kernel
theorem dX3_tire_2 : decode cX3_tire 2 = .ok (.iload_n 3, 1) := by decide +kernel
theorem dX3_tire_3 : decode cX3_tire 3 = .ok (.bipush 6, 2) := by decide +kernel
theorem dX3_tire_5 : decode cX3_tire 5 = .ok (.if_icmp .ge 42, 3) := by decide +kernel
theorem dX3_tire_8 : decode cX3_tire 8 = .ok (.aload_n 2, 1) := by decide +kernel
theorem dX3_tire_9 : decode cX3_tire 9 = .ok (.iload_n 3, 1) := by decide +kernel
theorem dX3_tire_10 : decode cX3_tire 10 = .ok (.iload_n 1, 1) := by decide +kernel
theorem dX3_tire_11 : decode cX3_tire 11 = .ok (.iload_n 3, 1) := by decide +kernel
theorem dX3_tire_12 : decode cX3_tire 12 = .ok (.invokestatic 223, 3) := by decide +kernel
theorem dX3_tire_15 : decode cX3_tire 15 = .ok (.ifCond .eq 15, 3) := by decide +kernel
theorem dX3_tire_18 : decode cX3_tire 18 = .ok (.aload_n 0, 1) := by decide +kernel
theorem dX3_tire_19 : decode cX3_tire 19 = .ok (.iload_n 3, 1) := by decide +kernel
theorem dX3_tire_20 : decode cX3_tire 20 = .ok (.iaload, 1) := by decide +kernel
theorem dX3_tire_21 : decode cX3_tire 21 = .ok (.iconst 2, 1) := by decide +kernel
theorem dX3_tire_22 : decode cX3_tire 22 = .ok (.isub, 1) := by decide +kernel
theorem dX3_tire_23 : decode cX3_tire 23 = .ok (.iconst 0, 1) := by decide +kernel
theorem dX3_tire_24 : decode cX3_tire 24 = .ok (.invokestatic 226, 3) := by decide +kernel
theorem dX3_tire_27 : decode cX3_tire 27 = .ok (.goto 13, 3) := by decide +kernel
theorem dX3_tire_30 : decode cX3_tire 30 = .ok (.aload_n 0, 1) := by decide +kernel
theorem dX3_tire_31 : decode cX3_tire 31 = .ok (.iload_n 3, 1) := by decide +kernel
theorem dX3_tire_32 : decode cX3_tire 32 = .ok (.iaload, 1) := by decide +kernel
theorem dX3_tire_33 : decode cX3_tire 33 = .ok (.iconst 1, 1) := by decide +kernel
theorem dX3_tire_34 : decode cX3_tire 34 = .ok (.iadd, 1) := by decide +kernel
theorem dX3_tire_35 : decode cX3_tire 35 = .ok (.bipush 20, 2) := by decide +kernel
theorem dX3_tire_37 : decode cX3_tire 37 = .ok (.invokestatic 166, 3) := by decide +kernel
theorem dX3_tire_40 : decode cX3_tire 40 = .ok (.iastore, 1) := by decide +kernel
theorem dX3_tire_41 : decode cX3_tire 41 = .ok (.iinc 3 1, 3) := by decide +kernel
theorem dX3_tire_44 : decode cX3_tire 44 = .ok (.goto (-42), 3) := by decide +kernel
theorem dX3_tire_47 : decode cX3_tire 47 = .ok (.return_, 1) := by decide +kernel
theorem dX3_has_0 : decode cX3_has 0 = .ok (.iload_n 0, 1) := by decide +kernel
theorem dX3_has_1 : decode cX3_has 1 = .ok (.iload_n 1, 1) := by decide +kernel
theorem dX3_has_2 : decode cX3_has 2 = .ok (.ishr, 1) := by decide +kernel
theorem dX3_has_3 : decode cX3_has 3 = .ok (.iconst 1, 1) := by decide +kernel
theorem dX3_has_4 : decode cX3_has 4 = .ok (.iand, 1) := by decide +kernel
theorem dX3_has_5 : decode cX3_has 5 = .ok (.iconst 1, 1) := by decide +kernel
theorem dX3_has_6 : decode cX3_has 6 = .ok (.if_icmp .ne 7, 3) := by decide +kernel
theorem dX3_has_9 : decode cX3_has 9 = .ok (.iconst 1, 1) := by decide +kernel
theorem dX3_has_10 : decode cX3_has 10 = .ok (.goto 4, 3) := by decide +kernel
theorem dX3_has_13 : decode cX3_has 13 = .ok (.iconst 0, 1) := by decide +kernel
theorem dX3_has_14 : decode cX3_has 14 = .ok (.ireturn, 1) := by decide +kernel
theorem dX3_bears_0 : decode cX3_bears 0 = .ok (.aload_n 0, 1) := by decide +kernel
theorem dX3_bears_1 : decode cX3_bears 1 = .ok (.bipush 8, 2) := by decide +kernel
theorem dX3_bears_3 : decode cX3_bears 3 = .ok (.iconst (-1), 1) := by decide +kernel
theorem dX3_bears_4 : decode cX3_bears 4 = .ok (.invokevirtual 188, 3) := by decide +kernel
theorem dX3_bears_7 : decode cX3_bears 7 = .ok (.bipush (-9), 2) := by decide +kernel
theorem dX3_bears_9 : decode cX3_bears 9 = .ok (.if_icmp .eq 5, 3) := by decide +kernel
theorem dX3_bears_12 : decode cX3_bears 12 = .ok (.iconst 0, 1) := by decide +kernel
theorem dX3_bears_13 : decode cX3_bears 13 = .ok (.ireturn, 1) := by decide +kernel
theorem dX3_bears_14 : decode cX3_bears 14 = .ok (.iconst 0, 1) := by decide +kernel
theorem dX3_bears_15 : decode cX3_bears 15 = .ok (.istore_n 1, 1) := by decide +kernel
theorem dX3_bears_16 : decode cX3_bears 16 = .ok (.iconst 0, 1) := by decide +kernel
theorem dX3_bears_17 : decode cX3_bears 17 = .ok (.istore_n 2, 1) := by decide +kernel
theorem dX3_bears_18 : decode cX3_bears 18 = .ok (.iload_n 2, 1) := by decide +kernel
theorem dX3_bears_19 : decode cX3_bears 19 = .ok (.aload_n 0, 1) := by decide +kernel
theorem dX3_bears_20 : decode cX3_bears 20 = .ok (.getfield 19, 3) := by decide +kernel
theorem dX3_bears_23 : decode cX3_bears 23 = .ok (.getfield 146, 3) := by decide +kernel
theorem dX3_bears_26 : decode cX3_bears 26 = .ok (.if_icmp .ge 27, 3) := by decide +kernel
theorem dX3_bears_29 : decode cX3_bears 29 = .ok (.aload_n 0, 1) := by decide +kernel
theorem dX3_bears_30 : decode cX3_bears 30 = .ok (.bipush 8, 2) := by decide +kernel
theorem dX3_bears_32 : decode cX3_bears 32 = .ok (.iload_n 2, 1) := by decide +kernel
theorem dX3_bears_33 : decode cX3_bears 33 = .ok (.invokevirtual 188, 3) := by decide +kernel
theorem dX3_bears_36 : decode cX3_bears 36 = .ok (.bipush (-9), 2) := by decide +kernel
theorem dX3_bears_38 : decode cX3_bears 38 = .ok (.if_icmp .ne 9, 3) := by decide +kernel
theorem dX3_bears_41 : decode cX3_bears 41 = .ok (.iload_n 1, 1) := by decide +kernel
theorem dX3_bears_42 : decode cX3_bears 42 = .ok (.iconst 1, 1) := by decide +kernel
theorem dX3_bears_43 : decode cX3_bears 43 = .ok (.iload_n 2, 1) := by decide +kernel
theorem dX3_bears_44 : decode cX3_bears 44 = .ok (.ishl, 1) := by decide +kernel
theorem dX3_bears_45 : decode cX3_bears 45 = .ok (.ior, 1) := by decide +kernel
theorem dX3_bears_46 : decode cX3_bears 46 = .ok (.istore_n 1, 1) := by decide +kernel
theorem dX3_bears_47 : decode cX3_bears 47 = .ok (.iinc 2 1, 3) := by decide +kernel
theorem dX3_bears_50 : decode cX3_bears 50 = .ok (.goto (-32), 3) := by decide +kernel
theorem dX3_bears_53 : decode cX3_bears 53 = .ok (.iload_n 1, 1) := by decide +kernel
theorem dX3_bears_54 : decode cX3_bears 54 = .ok (.ireturn, 1) := by decide +kernel
theorem dX3_cart_0 : decode cX3_cart 0 = .ok (.aload_n 0, 1) := by decide +kernel
theorem dX3_cart_1 : decode cX3_cart 1 = .ok (.iload_n 1, 1) := by decide +kernel
theorem dX3_cart_2 : decode cX3_cart 2 = .ok (.invokevirtual 87, 3) := by decide +kernel
theorem dX3_cart_5 : decode cX3_cart 5 = .ok (.ifCond .eq 33, 3) := by decide +kernel
theorem dX3_cart_8 : decode cX3_cart 8 = .ok (.aload_n 0, 1) := by decide +kernel
theorem dX3_cart_9 : decode cX3_cart 9 = .ok (.iload_n 2, 1) := by decide +kernel
theorem dX3_cart_10 : decode cX3_cart 10 = .ok (.invokevirtual 87, 3) := by decide +kernel
theorem dX3_cart_13 : decode cX3_cart 13 = .ok (.ifCond .eq 25, 3) := by decide +kernel
theorem dX3_cart_16 : decode cX3_cart 16 = .ok (.iload_n 3, 1) := by decide +kernel
theorem dX3_cart_17 : decode cX3_cart 17 = .ok (.iconst 1, 1) := by decide +kernel
theorem dX3_cart_18 : decode cX3_cart 18 = .ok (.if_icmp .lt 20, 3) := by decide +kernel
theorem dX3_cart_21 : decode cX3_cart 21 = .ok (.iload_n 3, 1) := by decide +kernel
theorem dX3_cart_22 : decode cX3_cart 22 = .ok (.bipush 9, 2) := by decide +kernel
theorem dX3_cart_24 : decode cX3_cart 24 = .ok (.if_icmp .gt 14, 3) := by decide +kernel
theorem dX3_cart_27 : decode cX3_cart 27 = .ok (.iload 4, 2) := by decide +kernel
theorem dX3_cart_29 : decode cX3_cart 29 = .ok (.ifCond .lt 9, 3) := by decide +kernel
theorem dX3_cart_32 : decode cX3_cart 32 = .ok (.iload 4, 2) := by decide +kernel
theorem dX3_cart_34 : decode cX3_cart 34 = .ok (.iconst 1, 1) := by decide +kernel
theorem dX3_cart_35 : decode cX3_cart 35 = .ok (.if_icmp .le 5, 3) := by decide +kernel
theorem dX3_cart_38 : decode cX3_cart 38 = .ok (.iconst (-1), 1) := by decide +kernel
theorem dX3_cart_39 : decode cX3_cart 39 = .ok (.ireturn, 1) := by decide +kernel
theorem dX3_cart_40 : decode cX3_cart 40 = .ok (.aload_n 0, 1) := by decide +kernel
theorem dX3_cart_41 : decode cX3_cart 41 = .ok (.getfield 19, 3) := by decide +kernel
theorem dX3_cart_44 : decode cX3_cart 44 = .ok (.aload_n 0, 1) := by decide +kernel
theorem dX3_cart_45 : decode cX3_cart 45 = .ok (.getfield 29, 3) := by decide +kernel
theorem dX3_cart_48 : decode cX3_cart 48 = .ok (.iconst (-1), 1) := by decide +kernel
theorem dX3_cart_49 : decode cX3_cart 49 = .ok (.invokevirtual 172, 3) := by decide +kernel
theorem dX3_cart_52 : decode cX3_cart 52 = .ok (.istore 5, 2) := by decide +kernel
theorem dX3_cart_54 : decode cX3_cart 54 = .ok (.iconst 0, 1) := by decide +kernel
theorem dX3_cart_55 : decode cX3_cart 55 = .ok (.istore 6, 2) := by decide +kernel
theorem dX3_cart_57 : decode cX3_cart 57 = .ok (.iload 6, 2) := by decide +kernel
theorem dX3_cart_59 : decode cX3_cart 59 = .ok (.iconst 4, 1) := by decide +kernel
theorem dX3_cart_60 : decode cX3_cart 60 = .ok (.if_icmp .ge 19, 3) := by decide +kernel
theorem dX3_cart_63 : decode cX3_cart 63 = .ok (.aload_n 0, 1) := by decide +kernel
theorem dX3_cart_64 : decode cX3_cart 64 = .ok (.getfield 62, 3) := by decide +kernel
theorem dX3_cart_67 : decode cX3_cart 67 = .ok (.iload 6, 2) := by decide +kernel
theorem dX3_cart_69 : decode cX3_cart 69 = .ok (.sipush 1000, 3) := by decide +kernel
theorem dX3_cart_72 : decode cX3_cart 72 = .ok (.iastore, 1) := by decide +kernel
theorem dX3_cart_73 : decode cX3_cart 73 = .ok (.iinc 6 1, 3) := by decide +kernel
theorem dX3_cart_76 : decode cX3_cart 76 = .ok (.goto (-19), 3) := by decide +kernel
theorem dX3_cart_79 : decode cX3_cart 79 = .ok (.aload_n 0, 1) := by decide +kernel
theorem dX3_cart_80 : decode cX3_cart 80 = .ok (.getfield 62, 3) := by decide +kernel
theorem dX3_cart_83 : decode cX3_cart 83 = .ok (.iload_n 1, 1) := by decide +kernel
theorem dX3_cart_84 : decode cX3_cart 84 = .ok (.aload_n 0, 1) := by decide +kernel
theorem dX3_cart_85 : decode cX3_cart 85 = .ok (.iload 5, 2) := by decide +kernel
theorem dX3_cart_87 : decode cX3_cart 87 = .ok (.iload_n 1, 1) := by decide +kernel
theorem dX3_cart_88 : decode cX3_cart 88 = .ok (.iload_n 3, 1) := by decide +kernel
theorem dX3_cart_89 : decode cX3_cart 89 = .ok (.invokevirtual 229, 3) := by decide +kernel
theorem dX3_cart_92 : decode cX3_cart 92 = .ok (.iastore, 1) := by decide +kernel
theorem dX3_cart_93 : decode cX3_cart 93 = .ok (.iconst 1, 1) := by decide +kernel
theorem dX3_cart_94 : decode cX3_cart 94 = .ok (.istore 6, 2) := by decide +kernel
theorem dX3_cart_96 : decode cX3_cart 96 = .ok (.iload 6, 2) := by decide +kernel
theorem dX3_cart_98 : decode cX3_cart 98 = .ok (.aload_n 0, 1) := by decide +kernel
theorem dX3_cart_99 : decode cX3_cart 99 = .ok (.getfield 19, 3) := by decide +kernel
theorem dX3_cart_102 : decode cX3_cart 102 = .ok (.getfield 149, 3) := by decide +kernel
theorem dX3_cart_105 : decode cX3_cart 105 = .ok (.if_icmp .ge 39, 3) := by decide +kernel
theorem dX3_cart_108 : decode cX3_cart 108 = .ok (.iconst 0, 1) := by decide +kernel
theorem dX3_cart_109 : decode cX3_cart 109 = .ok (.istore 7, 2) := by decide +kernel
theorem dX3_cart_111 : decode cX3_cart 111 = .ok (.iload 7, 2) := by decide +kernel
theorem dX3_cart_113 : decode cX3_cart 113 = .ok (.aload_n 0, 1) := by decide +kernel
theorem dX3_cart_114 : decode cX3_cart 114 = .ok (.getfield 19, 3) := by decide +kernel
theorem dX3_cart_117 : decode cX3_cart 117 = .ok (.getfield 149, 3) := by decide +kernel
theorem dX3_cart_120 : decode cX3_cart 120 = .ok (.if_icmp .ge 18, 3) := by decide +kernel
theorem dX3_cart_123 : decode cX3_cart 123 = .ok (.aload_n 0, 1) := by decide +kernel
theorem dX3_cart_124 : decode cX3_cart 124 = .ok (.iload 5, 2) := by decide +kernel
theorem dX3_cart_126 : decode cX3_cart 126 = .ok (.iload 7, 2) := by decide +kernel
theorem dX3_cart_128 : decode cX3_cart 128 = .ok (.iload_n 3, 1) := by decide +kernel
theorem dX3_cart_129 : decode cX3_cart 129 = .ok (.invokevirtual 233, 3) := by decide +kernel
theorem dX3_cart_132 : decode cX3_cart 132 = .ok (.iinc 7 1, 3) := by decide +kernel
theorem dX3_cart_135 : decode cX3_cart 135 = .ok (.goto (-24), 3) := by decide +kernel
theorem dX3_cart_138 : decode cX3_cart 138 = .ok (.iinc 6 1, 3) := by decide +kernel
theorem dX3_cart_141 : decode cX3_cart 141 = .ok (.goto (-45), 3) := by decide +kernel
theorem dX3_cart_144 : decode cX3_cart 144 = .ok (.aload_n 0, 1) := by decide +kernel
theorem dX3_cart_145 : decode cX3_cart 145 = .ok (.getfield 62, 3) := by decide +kernel
theorem dX3_cart_148 : decode cX3_cart 148 = .ok (.iload_n 2, 1) := by decide +kernel
theorem dX3_cart_149 : decode cX3_cart 149 = .ok (.iaload, 1) := by decide +kernel
theorem dX3_cart_150 : decode cX3_cart 150 = .ok (.sipush 1000, 3) := by decide +kernel
theorem dX3_cart_153 : decode cX3_cart 153 = .ok (.if_icmp .lt 6, 3) := by decide +kernel
theorem dX3_cart_156 : decode cX3_cart 156 = .ok (.bipush (-9), 2) := by decide +kernel
theorem dX3_cart_158 : decode cX3_cart 158 = .ok (.ireturn, 1) := by decide +kernel
theorem dX3_cart_159 : decode cX3_cart 159 = .ok (.iload 4, 2) := by decide +kernel
theorem dX3_cart_161 : decode cX3_cart 161 = .ok (.ifCond .ne 15, 3) := by decide +kernel
theorem dX3_cart_164 : decode cX3_cart 164 = .ok (.aload_n 0, 1) := by decide +kernel
theorem dX3_cart_165 : decode cX3_cart 165 = .ok (.getfield 62, 3) := by decide +kernel
theorem dX3_cart_168 : decode cX3_cart 168 = .ok (.iload_n 2, 1) := by decide +kernel
theorem dX3_cart_169 : decode cX3_cart 169 = .ok (.iaload, 1) := by decide +kernel
theorem dX3_cart_170 : decode cX3_cart 170 = .ok (.bipush 8, 2) := by decide +kernel
theorem dX3_cart_172 : decode cX3_cart 172 = .ok (.idiv, 1) := by decide +kernel
theorem dX3_cart_173 : decode cX3_cart 173 = .ok (.goto 12, 3) := by decide +kernel
theorem dX3_cart_176 : decode cX3_cart 176 = .ok (.aload_n 0, 1) := by decide +kernel
theorem dX3_cart_177 : decode cX3_cart 177 = .ok (.getfield 62, 3) := by decide +kernel
theorem dX3_cart_180 : decode cX3_cart 180 = .ok (.iload_n 2, 1) := by decide +kernel
theorem dX3_cart_181 : decode cX3_cart 181 = .ok (.iaload, 1) := by decide +kernel
theorem dX3_cart_182 : decode cX3_cart 182 = .ok (.bipush 8, 2) := by decide +kernel
theorem dX3_cart_184 : decode cX3_cart 184 = .ok (.irem, 1) := by decide +kernel
theorem dX3_cart_185 : decode cX3_cart 185 = .ok (.ireturn, 1) := by decide +kernel
