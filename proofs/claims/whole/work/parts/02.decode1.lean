theorem dX10_fromFirstCliff_7 : decode cX10_fromFirstCliff 7 = .ok (.aload_n 0, 1) := by decide +kernel
theorem dX10_fromFirstCliff_8 : decode cX10_fromFirstCliff 8 = .ok (.getfield 15, 3) := by decide +kernel
theorem dX10_fromFirstCliff_11 : decode cX10_fromFirstCliff 11 = .ok (.if_icmp .ge 46, 3) := by decide +kernel
theorem dX10_fromFirstCliff_14 : decode cX10_fromFirstCliff 14 = .ok (.aload_n 0, 1) := by decide +kernel
theorem dX10_fromFirstCliff_15 : decode cX10_fromFirstCliff 15 = .ok (.getfield 18, 3) := by decide +kernel
theorem dX10_fromFirstCliff_18 : decode cX10_fromFirstCliff 18 = .ok (.iload_n 3, 1) := by decide +kernel
theorem dX10_fromFirstCliff_19 : decode cX10_fromFirstCliff 19 = .ok (.iconst 1, 1) := by decide +kernel
theorem dX10_fromFirstCliff_20 : decode cX10_fromFirstCliff 20 = .ok (.iadd, 1) := by decide +kernel
theorem dX10_fromFirstCliff_21 : decode cX10_fromFirstCliff 21 = .ok (.iaload, 1) := by decide +kernel
theorem dX10_fromFirstCliff_22 : decode cX10_fromFirstCliff 22 = .ok (.i2l, 1) := by decide +kernel
theorem dX10_fromFirstCliff_23 : decode cX10_fromFirstCliff 23 = .ok (.aload_n 0, 1) := by decide +kernel
theorem dX10_fromFirstCliff_24 : decode cX10_fromFirstCliff 24 = .ok (.getfield 18, 3) := by decide +kernel
theorem dX10_fromFirstCliff_27 : decode cX10_fromFirstCliff 27 = .ok (.iload_n 3, 1) := by decide +kernel
theorem dX10_fromFirstCliff_28 : decode cX10_fromFirstCliff 28 = .ok (.iaload, 1) := by decide +kernel
theorem dX10_fromFirstCliff_29 : decode cX10_fromFirstCliff 29 = .ok (.i2l, 1) := by decide +kernel
theorem dX10_fromFirstCliff_30 : decode cX10_fromFirstCliff 30 = .ok (.lsub, 1) := by decide +kernel
theorem dX10_fromFirstCliff_31 : decode cX10_fromFirstCliff 31 = .ok (.lstore 4, 2) := by decide +kernel
theorem dX10_fromFirstCliff_33 : decode cX10_fromFirstCliff 33 = .ok (.lload 4, 2) := by decide +kernel
theorem dX10_fromFirstCliff_35 : decode cX10_fromFirstCliff 35 = .ok (.lconst 0, 1) := by decide +kernel
theorem dX10_fromFirstCliff_36 : decode cX10_fromFirstCliff 36 = .ok (.lcmp, 1) := by decide +kernel
theorem dX10_fromFirstCliff_37 : decode cX10_fromFirstCliff 37 = .ok (.ifCond .le 14, 3) := by decide +kernel
theorem dX10_fromFirstCliff_40 : decode cX10_fromFirstCliff 40 = .ok (.lload 4, 2) := by decide +kernel
theorem dX10_fromFirstCliff_42 : decode cX10_fromFirstCliff 42 = .ok (.iload_n 1, 1) := by decide +kernel
theorem dX10_fromFirstCliff_43 : decode cX10_fromFirstCliff 43 = .ok (.i2l, 1) := by decide +kernel
theorem dX10_fromFirstCliff_44 : decode cX10_fromFirstCliff 44 = .ok (.lcmp, 1) := by decide +kernel
theorem dX10_fromFirstCliff_45 : decode cX10_fromFirstCliff 45 = .ok (.ifCond .ne 6, 3) := by decide +kernel
theorem dX10_fromFirstCliff_48 : decode cX10_fromFirstCliff 48 = .ok (.iinc 2 1, 3) := by decide +kernel
theorem dX10_fromFirstCliff_51 : decode cX10_fromFirstCliff 51 = .ok (.iinc 3 2, 3) := by decide +kernel
theorem dX10_fromFirstCliff_54 : decode cX10_fromFirstCliff 54 = .ok (.goto (-50), 3) := by decide +kernel
theorem dX10_fromFirstCliff_57 : decode cX10_fromFirstCliff 57 = .ok (.iload_n 2, 1) := by decide +kernel
theorem dX10_fromFirstCliff_58 : decode cX10_fromFirstCliff 58 = .ok (.ireturn, 1) := by decide +kernel
theorem dX11_init_0 : decode cX11_init 0 = .ok (.aload_n 0, 1) := by decide +kernel
theorem dX11_init_1 : decode cX11_init 1 = .ok (.invokespecial 1, 3) := by decide +kernel
theorem dX11_init_4 : decode cX11_init 4 = .ok (.aload_n 0, 1) := by decide +kernel
theorem dX11_init_5 : decode cX11_init 5 = .ok (.new 7, 3) := by decide +kernel
theorem dX11_init_8 : decode cX11_init 8 = .ok (.dup, 1) := by decide +kernel
theorem dX11_init_9 : decode cX11_init 9 = .ok (.invokespecial 9, 3) := by decide +kernel
theorem dX11_init_12 : decode cX11_init 12 = .ok (.putfield 10, 3) := by decide +kernel
theorem dX11_init_15 : decode cX11_init 15 = .ok (.bipush 7, 2) := by decide +kernel
theorem dX11_init_17 : decode cX11_init 17 = .ok (.anewarray 16, 3) := by decide +kernel
theorem dX11_init_20 : decode cX11_init 20 = .ok (.dup, 1) := by decide +kernel
theorem dX11_init_21 : decode cX11_init 21 = .ok (.iconst 0, 1) := by decide +kernel
theorem dX11_init_22 : decode cX11_init 22 = .ok (.new 16, 3) := by decide +kernel
theorem dX11_init_25 : decode cX11_init 25 = .ok (.dup, 1) := by decide +kernel
theorem dX11_init_26 : decode cX11_init 26 = .ok (.invokespecial 18, 3) := by decide +kernel
theorem dX11_init_29 : decode cX11_init 29 = .ok (.aastore, 1) := by decide +kernel
theorem dX11_init_30 : decode cX11_init 30 = .ok (.dup, 1) := by decide +kernel
theorem dX11_init_31 : decode cX11_init 31 = .ok (.iconst 1, 1) := by decide +kernel
theorem dX11_init_32 : decode cX11_init 32 = .ok (.new 19, 3) := by decide +kernel
theorem dX11_init_35 : decode cX11_init 35 = .ok (.dup, 1) := by decide +kernel
theorem dX11_init_36 : decode cX11_init 36 = .ok (.invokespecial 21, 3) := by decide +kernel
theorem dX11_init_39 : decode cX11_init 39 = .ok (.aastore, 1) := by decide +kernel
theorem dX11_init_40 : decode cX11_init 40 = .ok (.dup, 1) := by decide +kernel
theorem dX11_init_41 : decode cX11_init 41 = .ok (.iconst 2, 1) := by decide +kernel
theorem dX11_init_42 : decode cX11_init 42 = .ok (.new 22, 3) := by decide +kernel
theorem dX11_init_45 : decode cX11_init 45 = .ok (.dup, 1) := by decide +kernel
theorem dX11_init_46 : decode cX11_init 46 = .ok (.invokespecial 24, 3) := by decide +kernel
theorem dX11_init_49 : decode cX11_init 49 = .ok (.aastore, 1) := by decide +kernel
theorem dX11_init_50 : decode cX11_init 50 = .ok (.dup, 1) := by decide +kernel
theorem dX11_init_51 : decode cX11_init 51 = .ok (.iconst 3, 1) := by decide +kernel
theorem dX11_init_52 : decode cX11_init 52 = .ok (.new 25, 3) := by decide +kernel
theorem dX11_init_55 : decode cX11_init 55 = .ok (.dup, 1) := by decide +kernel
theorem dX11_init_56 : decode cX11_init 56 = .ok (.invokespecial 27, 3) := by decide +kernel
theorem dX11_init_59 : decode cX11_init 59 = .ok (.aastore, 1) := by decide +kernel
theorem dX11_init_60 : decode cX11_init 60 = .ok (.dup, 1) := by decide +kernel
theorem dX11_init_61 : decode cX11_init 61 = .ok (.iconst 4, 1) := by decide +kernel
theorem dX11_init_62 : decode cX11_init 62 = .ok (.new 28, 3) := by decide +kernel
theorem dX11_init_65 : decode cX11_init 65 = .ok (.dup, 1) := by decide +kernel
theorem dX11_init_66 : decode cX11_init 66 = .ok (.invokespecial 30, 3) := by decide +kernel
theorem dX11_init_69 : decode cX11_init 69 = .ok (.aastore, 1) := by decide +kernel
theorem dX11_init_70 : decode cX11_init 70 = .ok (.dup, 1) := by decide +kernel
theorem dX11_init_71 : decode cX11_init 71 = .ok (.iconst 5, 1) := by decide +kernel
theorem dX11_init_72 : decode cX11_init 72 = .ok (.new 31, 3) := by decide +kernel
theorem dX11_init_75 : decode cX11_init 75 = .ok (.dup, 1) := by decide +kernel
theorem dX11_init_76 : decode cX11_init 76 = .ok (.invokespecial 33, 3) := by decide +kernel
theorem dX11_init_79 : decode cX11_init 79 = .ok (.aastore, 1) := by decide +kernel
theorem dX11_init_80 : decode cX11_init 80 = .ok (.dup, 1) := by decide +kernel
theorem dX11_init_81 : decode cX11_init 81 = .ok (.bipush 6, 2) := by decide +kernel
theorem dX11_init_83 : decode cX11_init 83 = .ok (.new 34, 3) := by decide +kernel
theorem dX11_init_86 : decode cX11_init 86 = .ok (.dup, 1) := by decide +kernel
theorem dX11_init_87 : decode cX11_init 87 = .ok (.invokespecial 36, 3) := by decide +kernel
theorem dX11_init_90 : decode cX11_init 90 = .ok (.aastore, 1) := by decide +kernel
theorem dX11_init_91 : decode cX11_init 91 = .ok (.astore_n 1, 1) := by decide +kernel
theorem dX11_init_92 : decode cX11_init 92 = .ok (.aload_n 0, 1) := by decide +kernel
theorem dX11_init_93 : decode cX11_init 93 = .ok (.new 37, 3) := by decide +kernel
theorem dX11_init_96 : decode cX11_init 96 = .ok (.dup, 1) := by decide +kernel
theorem dX11_init_97 : decode cX11_init 97 = .ok (.aload_n 1, 1) := by decide +kernel
theorem dX11_init_98 : decode cX11_init 98 = .ok (.aload_n 0, 1) := by decide +kernel
theorem dX11_init_99 : decode cX11_init 99 = .ok (.getfield 10, 3) := by decide +kernel
theorem dX11_init_102 : decode cX11_init 102 = .ok (.invokespecial 39, 3) := by decide +kernel
theorem dX11_init_105 : decode cX11_init 105 = .ok (.putfield 42, 3) := by decide +kernel
theorem dX11_init_108 : decode cX11_init 108 = .ok (.aload_n 0, 1) := by decide +kernel
theorem dX11_init_109 : decode cX11_init 109 = .ok (.new 37, 3) := by decide +kernel
theorem dX11_init_112 : decode cX11_init 112 = .ok (.dup, 1) := by decide +kernel
theorem dX11_init_113 : decode cX11_init 113 = .ok (.aload_n 1, 1) := by decide +kernel
theorem dX11_init_114 : decode cX11_init 114 = .ok (.aload_n 0, 1) := by decide +kernel
theorem dX11_init_115 : decode cX11_init 115 = .ok (.getfield 10, 3) := by decide +kernel
theorem dX11_init_118 : decode cX11_init 118 = .ok (.invokespecial 39, 3) := by decide +kernel
theorem dX11_init_121 : decode cX11_init 121 = .ok (.putfield 46, 3) := by decide +kernel
theorem dX11_init_124 : decode cX11_init 124 = .ok (.aload_n 0, 1) := by decide +kernel
theorem dX11_init_125 : decode cX11_init 125 = .ok (.new 37, 3) := by decide +kernel
theorem dX11_init_128 : decode cX11_init 128 = .ok (.dup, 1) := by decide +kernel
theorem dX11_init_129 : decode cX11_init 129 = .ok (.aload_n 1, 1) := by decide +kernel
theorem dX11_init_130 : decode cX11_init 130 = .ok (.aload_n 0, 1) := by decide +kernel
theorem dX11_init_131 : decode cX11_init 131 = .ok (.getfield 10, 3) := by decide +kernel
theorem dX11_init_134 : decode cX11_init 134 = .ok (.invokespecial 39, 3) := by decide +kernel
theorem dX11_init_137 : decode cX11_init 137 = .ok (.putfield 49, 3) := by decide +kernel
theorem dX11_init_140 : decode cX11_init 140 = .ok (.aload_n 0, 1) := by decide +kernel
theorem dX11_init_141 : decode cX11_init 141 = .ok (.iconst 4, 1) := by decide +kernel
theorem dX11_init_142 : decode cX11_init 142 = .ok (.anewarray 52, 3) := by decide +kernel
theorem dX11_init_145 : decode cX11_init 145 = .ok (.putfield 54, 3) := by decide +kernel
theorem dX11_init_148 : decode cX11_init 148 = .ok (.iconst 0, 1) := by decide +kernel
theorem dX11_init_149 : decode cX11_init 149 = .ok (.istore_n 2, 1) := by decide +kernel
theorem dX11_init_150 : decode cX11_init 150 = .ok (.iload_n 2, 1) := by decide +kernel
theorem dX11_init_151 : decode cX11_init 151 = .ok (.iconst 4, 1) := by decide +kernel
theorem dX11_init_152 : decode cX11_init 152 = .ok (.if_icmp .ge 22, 3) := by decide +kernel
theorem dX11_init_155 : decode cX11_init 155 = .ok (.aload_n 0, 1) := by decide +kernel
theorem dX11_init_156 : decode cX11_init 156 = .ok (.getfield 54, 3) := by decide +kernel
theorem dX11_init_159 : decode cX11_init 159 = .ok (.iload_n 2, 1) := by decide +kernel
theorem dX11_init_160 : decode cX11_init 160 = .ok (.new 52, 3) := by decide +kernel
theorem dX11_init_163 : decode cX11_init 163 = .ok (.dup, 1) := by decide +kernel
theorem dX11_init_164 : decode cX11_init 164 = .ok (.invokespecial 58, 3) := by decide +kernel
theorem dX11_init_167 : decode cX11_init 167 = .ok (.aastore, 1) := by decide +kernel
theorem dX11_init_168 : decode cX11_init 168 = .ok (.iinc 2 1, 3) := by decide +kernel
theorem dX11_init_171 : decode cX11_init 171 = .ok (.goto (-21), 3) := by decide +kernel
theorem dX11_init_174 : decode cX11_init 174 = .ok (.aload_n 0, 1) := by decide +kernel
theorem dX11_init_175 : decode cX11_init 175 = .ok (.new 59, 3) := by decide +kernel
theorem dX11_init_178 : decode cX11_init 178 = .ok (.dup, 1) := by decide +kernel
theorem dX11_init_179 : decode cX11_init 179 = .ok (.invokespecial 61, 3) := by decide +kernel
theorem dX11_init_182 : decode cX11_init 182 = .ok (.putfield 62, 3) := by decide +kernel
theorem dX11_init_185 : decode cX11_init 185 = .ok (.aload_n 0, 1) := by decide +kernel
theorem dX11_init_186 : decode cX11_init 186 = .ok (.bipush 6, 2) := by decide +kernel
theorem dX11_init_188 : decode cX11_init 188 = .ok (.newarray .int, 2) := by decide +kernel
theorem dX11_init_190 : decode cX11_init 190 = .ok (.putfield 66, 3) := by decide +kernel
theorem dX11_init_193 : decode cX11_init 193 = .ok (.aload_n 0, 1) := by decide +kernel
theorem dX11_init_194 : decode cX11_init 194 = .ok (.iconst 0, 1) := by decide +kernel
theorem dX11_init_195 : decode cX11_init 195 = .ok (.putfield 70, 3) := by decide +kernel
theorem dX11_init_198 : decode cX11_init 198 = .ok (.return_, 1) := by decide +kernel
theorem dX11_air_0 : decode cX11_air 0 = .ok (.iload_n 1, 1) := by decide +kernel
theorem dX11_air_1 : decode cX11_air 1 = .ok (.iconst 0, 1) := by decide +kernel
theorem dX11_air_2 : decode cX11_air 2 = .ok (.iconst 2, 1) := by decide +kernel
theorem dX11_air_3 : decode cX11_air 3 = .ok (.invokestatic 74, 3) := by decide +kernel
theorem dX11_air_6 : decode cX11_air 6 = .ok (.ifCond .eq 9, 3) := by decide +kernel
theorem dX11_air_9 : decode cX11_air 9 = .ok (.aload_n 0, 1) := by decide +kernel
theorem dX11_air_10 : decode cX11_air 10 = .ok (.iconst 1, 1) := by decide +kernel
theorem dX11_air_11 : decode cX11_air 11 = .ok (.invokevirtual 78, 3) := by decide +kernel
theorem dX11_air_14 : decode cX11_air 14 = .ok (.ireturn, 1) := by decide +kernel
theorem dX11_air_15 : decode cX11_air 15 = .ok (.iload_n 1, 1) := by decide +kernel
theorem dX11_air_16 : decode cX11_air 16 = .ok (.ifCond .ne 21, 3) := by decide +kernel
theorem dX11_air_19 : decode cX11_air 19 = .ok (.iload_n 2, 1) := by decide +kernel
theorem dX11_air_20 : decode cX11_air 20 = .ok (.iconst 1, 1) := by decide +kernel
theorem dX11_air_21 : decode cX11_air 21 = .ok (.bipush 20, 2) := by decide +kernel
theorem dX11_air_23 : decode cX11_air 23 = .ok (.invokestatic 74, 3) := by decide +kernel
theorem dX11_air_26 : decode cX11_air 26 = .ok (.ifCond .ne 7, 3) := by decide +kernel
theorem dX11_air_29 : decode cX11_air 29 = .ok (.iconst 1, 1) := by decide +kernel
theorem dX11_air_30 : decode cX11_air 30 = .ok (.goto 22, 3) := by decide +kernel
theorem dX11_air_33 : decode cX11_air 33 = .ok (.iconst 0, 1) := by decide +kernel
theorem dX11_air_34 : decode cX11_air 34 = .ok (.goto 18, 3) := by decide +kernel
theorem dX11_air_37 : decode cX11_air 37 = .ok (.iload_n 2, 1) := by decide +kernel
theorem dX11_air_38 : decode cX11_air 38 = .ok (.iconst 0, 1) := by decide +kernel
theorem dX11_air_39 : decode cX11_air 39 = .ok (.bipush 9, 2) := by decide +kernel
theorem dX11_air_41 : decode cX11_air 41 = .ok (.invokestatic 74, 3) := by decide +kernel
theorem dX11_air_44 : decode cX11_air 44 = .ok (.ifCond .ne 7, 3) := by decide +kernel
theorem dX11_air_47 : decode cX11_air 47 = .ok (.iconst 1, 1) := by decide +kernel
theorem dX11_air_48 : decode cX11_air 48 = .ok (.goto 4, 3) := by decide +kernel
theorem dX11_air_51 : decode cX11_air 51 = .ok (.iconst 0, 1) := by decide +kernel
theorem dX11_air_52 : decode cX11_air 52 = .ok (.istore_n 3, 1) := by decide +kernel
theorem dX11_air_53 : decode cX11_air 53 = .ok (.iload_n 3, 1) := by decide +kernel
theorem dX11_air_54 : decode cX11_air 54 = .ok (.ifCond .ne 9, 3) := by decide +kernel
theorem dX11_air_57 : decode cX11_air 57 = .ok (.aload_n 0, 1) := by decide +kernel
theorem dX11_air_58 : decode cX11_air 58 = .ok (.iconst 1, 1) := by decide +kernel
theorem dX11_air_59 : decode cX11_air 59 = .ok (.invokevirtual 78, 3) := by decide +kernel
theorem dX11_air_62 : decode cX11_air 62 = .ok (.ireturn, 1) := by decide +kernel
theorem dX11_air_63 : decode cX11_air 63 = .ok (.aload_n 0, 1) := by decide +kernel
theorem dX11_air_64 : decode cX11_air 64 = .ok (.getfield 42, 3) := by decide +kernel
theorem dX11_air_67 : decode cX11_air 67 = .ok (.getfield 82, 3) := by decide +kernel
theorem dX11_air_70 : decode cX11_air 70 = .ok (.iload_n 1, 1) := by decide +kernel
theorem dX11_air_71 : decode cX11_air 71 = .ok (.iaload, 1) := by decide +kernel
theorem dX11_air_72 : decode cX11_air 72 = .ok (.istore 4, 2) := by decide +kernel
theorem dX11_air_74 : decode cX11_air 74 = .ok (.aload_n 0, 1) := by decide +kernel
theorem dX11_air_75 : decode cX11_air 75 = .ok (.getfield 42, 3) := by decide +kernel
theorem dX11_air_78 : decode cX11_air 78 = .ok (.getfield 82, 3) := by decide +kernel
theorem dX11_air_81 : decode cX11_air 81 = .ok (.iload_n 1, 1) := by decide +kernel
theorem dX11_air_82 : decode cX11_air 82 = .ok (.iload_n 2, 1) := by decide +kernel
theorem dX11_air_83 : decode cX11_air 83 = .ok (.iastore, 1) := by decide +kernel
theorem dX11_air_84 : decode cX11_air 84 = .ok (.iload 4, 2) := by decide +kernel
theorem dX11_air_86 : decode cX11_air 86 = .ok (.ireturn, 1) := by decide +kernel
theorem dX11_person_0 : decode cX11_person 0 = .ok (.iload_n 1, 1) := by decide +kernel
theorem dX11_person_1 : decode cX11_person 1 = .ok (.iconst 0, 1) := by decide +kernel
theorem dX11_person_2 : decode cX11_person 2 = .ok (.bipush 69, 2) := by decide +kernel
theorem dX11_person_4 : decode cX11_person 4 = .ok (.invokestatic 74, 3) := by decide +kernel
theorem dX11_person_7 : decode cX11_person 7 = .ok (.ifCond .ne 12, 3) := by decide +kernel
theorem dX11_person_10 : decode cX11_person 10 = .ok (.iload_n 2, 1) := by decide +kernel
theorem dX11_person_11 : decode cX11_person 11 = .ok (.iconst 0, 1) := by decide +kernel
theorem dX11_person_12 : decode cX11_person 12 = .ok (.iconst 1, 1) := by decide +kernel
theorem dX11_person_13 : decode cX11_person 13 = .ok (.invokestatic 74, 3) := by decide +kernel
theorem dX11_person_16 : decode cX11_person 16 = .ok (.ifCond .eq 9, 3) := by decide +kernel
theorem dX11_person_19 : decode cX11_person 19 = .ok (.aload_n 0, 1) := by decide +kernel
theorem dX11_person_20 : decode cX11_person 20 = .ok (.iconst 1, 1) := by decide +kernel
theorem dX11_person_21 : decode cX11_person 21 = .ok (.invokevirtual 78, 3) := by decide +kernel
theorem dX11_person_24 : decode cX11_person 24 = .ok (.ireturn, 1) := by decide +kernel
theorem dX11_person_25 : decode cX11_person 25 = .ok (.aload_n 0, 1) := by decide +kernel
theorem dX11_person_26 : decode cX11_person 26 = .ok (.getfield 42, 3) := by decide +kernel
theorem dX11_person_29 : decode cX11_person 29 = .ok (.getfield 85, 3) := by decide +kernel
theorem dX11_person_32 : decode cX11_person 32 = .ok (.bipush 6, 2) := by decide +kernel
theorem dX11_person_34 : decode cX11_person 34 = .ok (.if_icmp .lt 9, 3) := by decide +kernel
theorem dX11_person_37 : decode cX11_person 37 = .ok (.aload_n 0, 1) := by decide +kernel
theorem dX11_person_38 : decode cX11_person 38 = .ok (.iconst 4, 1) := by decide +kernel
theorem dX11_person_39 : decode cX11_person 39 = .ok (.invokevirtual 78, 3) := by decide +kernel
theorem dX11_person_42 : decode cX11_person 42 = .ok (.ireturn, 1) := by decide +kernel
theorem dX11_person_43 : decode cX11_person 43 = .ok (.aload_n 0, 1) := by decide +kernel
theorem dX11_person_44 : decode cX11_person 44 = .ok (.getfield 42, 3) := by decide +kernel
theorem dX11_person_47 : decode cX11_person 47 = .ok (.iload_n 1, 1) := by decide +kernel
theorem dX11_person_48 : decode cX11_person 48 = .ok (.iload_n 2, 1) := by decide +kernel
theorem dX11_person_49 : decode cX11_person 49 = .ok (.invokevirtual 88, 3) := by decide +kernel
theorem dX11_person_52 : decode cX11_person 52 = .ok (.ireturn, 1) := by decide +kernel
theorem dX11_ofVoice_0 : decode cX11_ofVoice 0 = .ok (.aload_n 0, 1) := by decide +kernel
theorem dX11_ofVoice_1 : decode cX11_ofVoice 1 = .ok (.iload_n 1, 1) := by decide +kernel
theorem dX11_ofVoice_2 : decode cX11_ofVoice 2 = .ok (.invokevirtual 92, 3) := by decide +kernel
theorem dX11_ofVoice_5 : decode cX11_ofVoice 5 = .ok (.ifCond .ne 12, 3) := by decide +kernel
theorem dX11_ofVoice_8 : decode cX11_ofVoice 8 = .ok (.iload_n 2, 1) := by decide +kernel
theorem dX11_ofVoice_9 : decode cX11_ofVoice 9 = .ok (.iconst 0, 1) := by decide +kernel
theorem dX11_ofVoice_10 : decode cX11_ofVoice 10 = .ok (.iconst 3, 1) := by decide +kernel
theorem dX11_ofVoice_11 : decode cX11_ofVoice 11 = .ok (.invokestatic 74, 3) := by decide +kernel
theorem dX11_ofVoice_14 : decode cX11_ofVoice 14 = .ok (.ifCond .eq 9, 3) := by decide +kernel
theorem dX11_ofVoice_17 : decode cX11_ofVoice 17 = .ok (.aload_n 0, 1) := by decide +kernel
theorem dX11_ofVoice_18 : decode cX11_ofVoice 18 = .ok (.iconst 1, 1) := by decide +kernel
theorem dX11_ofVoice_19 : decode cX11_ofVoice 19 = .ok (.invokevirtual 78, 3) := by decide +kernel
theorem dX11_ofVoice_22 : decode cX11_ofVoice 22 = .ok (.ireturn, 1) := by decide +kernel
theorem dX11_ofVoice_23 : decode cX11_ofVoice 23 = .ok (.iload_n 2, 1) := by decide +kernel
theorem dX11_ofVoice_24 : decode cX11_ofVoice 24 = .ok (.iconst 3, 1) := by decide +kernel
theorem dX11_ofVoice_25 : decode cX11_ofVoice 25 = .ok (.if_icmp .ne 14, 3) := by decide +kernel
theorem dX11_ofVoice_28 : decode cX11_ofVoice 28 = .ok (.aload_n 0, 1) := by decide +kernel
theorem dX11_ofVoice_29 : decode cX11_ofVoice 29 = .ok (.getfield 42, 3) := by decide +kernel
theorem dX11_ofVoice_32 : decode cX11_ofVoice 32 = .ok (.iload_n 1, 1) := by decide +kernel
theorem dX11_ofVoice_33 : decode cX11_ofVoice 33 = .ok (.invokevirtual 96, 3) := by decide +kernel
theorem dX11_ofVoice_36 : decode cX11_ofVoice 36 = .ok (.goto 14, 3) := by decide +kernel
theorem dX11_ofVoice_39 : decode cX11_ofVoice 39 = .ok (.aload_n 0, 1) := by decide +kernel
theorem dX11_ofVoice_40 : decode cX11_ofVoice 40 = .ok (.getfield 42, 3) := by decide +kernel
theorem dX11_ofVoice_43 : decode cX11_ofVoice 43 = .ok (.getfield 99, 3) := by decide +kernel
theorem dX11_ofVoice_46 : decode cX11_ofVoice 46 = .ok (.iload_n 2, 1) := by decide +kernel
theorem dX11_ofVoice_47 : decode cX11_ofVoice 47 = .ok (.aaload, 1) := by decide +kernel
theorem dX11_ofVoice_48 : decode cX11_ofVoice 48 = .ok (.iload_n 1, 1) := by decide +kernel
theorem dX11_ofVoice_49 : decode cX11_ofVoice 49 = .ok (.iaload, 1) := by decide +kernel
theorem dX11_ofVoice_50 : decode cX11_ofVoice 50 = .ok (.ireturn, 1) := by decide +kernel
theorem dX11_carries_0 : decode cX11_carries 0 = .ok (.aload_n 0, 1) := by decide +kernel
theorem dX11_carries_1 : decode cX11_carries 1 = .ok (.iload_n 1, 1) := by decide +kernel
theorem dX11_carries_2 : decode cX11_carries 2 = .ok (.invokevirtual 92, 3) := by decide +kernel
theorem dX11_carries_5 : decode cX11_carries 5 = .ok (.ifCond .ne 13, 3) := by decide +kernel
theorem dX11_carries_8 : decode cX11_carries 8 = .ok (.iload_n 2, 1) := by decide +kernel
theorem dX11_carries_9 : decode cX11_carries 9 = .ok (.iconst 0, 1) := by decide +kernel
theorem dX11_carries_10 : decode cX11_carries 10 = .ok (.bipush 39, 2) := by decide +kernel
theorem dX11_carries_12 : decode cX11_carries 12 = .ok (.invokestatic 74, 3) := by decide +kernel
theorem dX11_carries_15 : decode cX11_carries 15 = .ok (.ifCond .eq 9, 3) := by decide +kernel
theorem dX11_carries_18 : decode cX11_carries 18 = .ok (.aload_n 0, 1) := by decide +kernel
theorem dX11_carries_19 : decode cX11_carries 19 = .ok (.iconst 1, 1) := by decide +kernel
theorem dX11_carries_20 : decode cX11_carries 20 = .ok (.invokevirtual 78, 3) := by decide +kernel
theorem dX11_carries_23 : decode cX11_carries 23 = .ok (.ireturn, 1) := by decide +kernel
theorem dX11_carries_24 : decode cX11_carries 24 = .ok (.aload_n 0, 1) := by decide +kernel
theorem dX11_carries_25 : decode cX11_carries 25 = .ok (.getfield 42, 3) := by decide +kernel
theorem dX11_carries_28 : decode cX11_carries 28 = .ok (.iload_n 1, 1) := by decide +kernel
theorem dX11_carries_29 : decode cX11_carries 29 = .ok (.iload_n 2, 1) := by decide +kernel
theorem dX11_carries_30 : decode cX11_carries 30 = .ok (.invokevirtual 103, 3) := by decide +kernel
theorem dX11_carries_33 : decode cX11_carries 33 = .ok (.ireturn, 1) := by decide +kernel
theorem dX11_says_0 : decode cX11_says 0 = .ok (.aload_n 0, 1) := by decide +kernel
theorem dX11_says_1 : decode cX11_says 1 = .ok (.iload_n 1, 1) := by decide +kernel
theorem dX11_says_2 : decode cX11_says 2 = .ok (.invokevirtual 92, 3) := by decide +kernel
theorem dX11_says_5 : decode cX11_says 5 = .ok (.ifCond .ne 13, 3) := by decide +kernel
theorem dX11_says_8 : decode cX11_says 8 = .ok (.iload_n 2, 1) := by decide +kernel
theorem dX11_says_9 : decode cX11_says 9 = .ok (.iconst 0, 1) := by decide +kernel
theorem dX11_says_10 : decode cX11_says 10 = .ok (.bipush 39, 2) := by decide +kernel
theorem dX11_says_12 : decode cX11_says 12 = .ok (.invokestatic 74, 3) := by decide +kernel
theorem dX11_says_15 : decode cX11_says 15 = .ok (.ifCond .eq 9, 3) := by decide +kernel
theorem dX11_says_18 : decode cX11_says 18 = .ok (.aload_n 0, 1) := by decide +kernel
theorem dX11_says_19 : decode cX11_says 19 = .ok (.iconst 1, 1) := by decide +kernel
theorem dX11_says_20 : decode cX11_says 20 = .ok (.invokevirtual 78, 3) := by decide +kernel
theorem dX11_says_23 : decode cX11_says 23 = .ok (.ireturn, 1) := by decide +kernel
theorem dX11_says_24 : decode cX11_says 24 = .ok (.aload_n 0, 1) := by decide +kernel
theorem dX11_says_25 : decode cX11_says 25 = .ok (.getfield 42, 3) := by decide +kernel
theorem dX11_says_28 : decode cX11_says 28 = .ok (.iload_n 1, 1) := by decide +kernel
theorem dX11_says_29 : decode cX11_says 29 = .ok (.iload_n 2, 1) := by decide +kernel
theorem dX11_says_30 : decode cX11_says 30 = .ok (.invokevirtual 106, 3) := by decide +kernel
theorem dX11_says_33 : decode cX11_says 33 = .ok (.ireturn, 1) := by decide +kernel
theorem dX11_go_0 : decode cX11_go 0 = .ok (.aload_n 0, 1) := by decide +kernel
theorem dX11_go_1 : decode cX11_go 1 = .ok (.iload_n 1, 1) := by decide +kernel
theorem dX11_go_2 : decode cX11_go 2 = .ok (.invokevirtual 92, 3) := by decide +kernel
theorem dX11_go_5 : decode cX11_go 5 = .ok (.ifCond .ne 12, 3) := by decide +kernel
theorem dX11_go_8 : decode cX11_go 8 = .ok (.iload_n 2, 1) := by decide +kernel
theorem dX11_go_9 : decode cX11_go 9 = .ok (.iconst 0, 1) := by decide +kernel
theorem dX11_go_10 : decode cX11_go 10 = .ok (.iconst 1, 1) := by decide +kernel
theorem dX11_go_11 : decode cX11_go 11 = .ok (.invokestatic 74, 3) := by decide +kernel
theorem dX11_go_14 : decode cX11_go 14 = .ok (.ifCond .eq 9, 3) := by decide +kernel
theorem dX11_go_17 : decode cX11_go 17 = .ok (.aload_n 0, 1) := by decide +kernel
theorem dX11_go_18 : decode cX11_go 18 = .ok (.iconst 1, 1) := by decide +kernel
theorem dX11_go_19 : decode cX11_go 19 = .ok (.invokevirtual 78, 3) := by decide +kernel
theorem dX11_go_22 : decode cX11_go 22 = .ok (.ireturn, 1) := by decide +kernel
theorem dX11_go_23 : decode cX11_go 23 = .ok (.aload_n 0, 1) := by decide +kernel
theorem dX11_go_24 : decode cX11_go 24 = .ok (.getfield 42, 3) := by decide +kernel
theorem dX11_go_27 : decode cX11_go 27 = .ok (.getfield 99, 3) := by decide +kernel
theorem dX11_go_30 : decode cX11_go 30 = .ok (.iconst 2, 1) := by decide +kernel
theorem dX11_go_31 : decode cX11_go 31 = .ok (.aaload, 1) := by decide +kernel
theorem dX11_go_32 : decode cX11_go 32 = .ok (.iload_n 1, 1) := by decide +kernel
theorem dX11_go_33 : decode cX11_go 33 = .ok (.iaload, 1) := by decide +kernel
theorem dX11_go_34 : decode cX11_go 34 = .ok (.istore_n 3, 1) := by decide +kernel
theorem dX11_go_35 : decode cX11_go 35 = .ok (.aload_n 0, 1) := by decide +kernel
theorem dX11_go_36 : decode cX11_go 36 = .ok (.getfield 42, 3) := by decide +kernel
theorem dX11_go_39 : decode cX11_go 39 = .ok (.getfield 99, 3) := by decide +kernel
theorem dX11_go_42 : decode cX11_go 42 = .ok (.iconst 2, 1) := by decide +kernel
theorem dX11_go_43 : decode cX11_go 43 = .ok (.aaload, 1) := by decide +kernel
theorem dX11_go_44 : decode cX11_go 44 = .ok (.iload_n 1, 1) := by decide +kernel
theorem dX11_go_45 : decode cX11_go 45 = .ok (.iload_n 2, 1) := by decide +kernel
theorem dX11_go_46 : decode cX11_go 46 = .ok (.iastore, 1) := by decide +kernel
theorem dX11_go_47 : decode cX11_go 47 = .ok (.iload_n 3, 1) := by decide +kernel
theorem dX11_go_48 : decode cX11_go 48 = .ok (.ireturn, 1) := by decide +kernel
theorem dX11_become_0 : decode cX11_become 0 = .ok (.aload_n 0, 1) := by decide +kernel
theorem dX11_become_1 : decode cX11_become 1 = .ok (.iload_n 1, 1) := by decide +kernel
theorem dX11_become_2 : decode cX11_become 2 = .ok (.invokevirtual 92, 3) := by decide +kernel
theorem dX11_become_5 : decode cX11_become 5 = .ok (.ifCond .ne 13, 3) := by decide +kernel
theorem dX11_become_8 : decode cX11_become 8 = .ok (.iload_n 2, 1) := by decide +kernel
theorem dX11_become_9 : decode cX11_become 9 = .ok (.iconst 0, 1) := by decide +kernel
theorem dX11_become_10 : decode cX11_become 10 = .ok (.bipush 69, 2) := by decide +kernel
theorem dX11_become_12 : decode cX11_become 12 = .ok (.invokestatic 74, 3) := by decide +kernel
theorem dX11_become_15 : decode cX11_become 15 = .ok (.ifCond .eq 9, 3) := by decide +kernel
theorem dX11_become_18 : decode cX11_become 18 = .ok (.aload_n 0, 1) := by decide +kernel
theorem dX11_become_19 : decode cX11_become 19 = .ok (.iconst 1, 1) := by decide +kernel
theorem dX11_become_20 : decode cX11_become 20 = .ok (.invokevirtual 78, 3) := by decide +kernel
theorem dX11_become_23 : decode cX11_become 23 = .ok (.ireturn, 1) := by decide +kernel
theorem dX11_become_24 : decode cX11_become 24 = .ok (.aload_n 0, 1) := by decide +kernel
theorem dX11_become_25 : decode cX11_become 25 = .ok (.getfield 42, 3) := by decide +kernel
theorem dX11_become_28 : decode cX11_become 28 = .ok (.getfield 99, 3) := by decide +kernel
theorem dX11_become_31 : decode cX11_become 31 = .ok (.iconst 0, 1) := by decide +kernel
theorem dX11_become_32 : decode cX11_become 32 = .ok (.aaload, 1) := by decide +kernel
theorem dX11_become_33 : decode cX11_become 33 = .ok (.iload_n 1, 1) := by decide +kernel
theorem dX11_become_34 : decode cX11_become 34 = .ok (.iaload, 1) := by decide +kernel
theorem dX11_become_35 : decode cX11_become 35 = .ok (.istore_n 3, 1) := by decide +kernel
theorem dX11_become_36 : decode cX11_become 36 = .ok (.aload_n 0, 1) := by decide +kernel
theorem dX11_become_37 : decode cX11_become 37 = .ok (.getfield 42, 3) := by decide +kernel
theorem dX11_become_40 : decode cX11_become 40 = .ok (.getfield 99, 3) := by decide +kernel
theorem dX11_become_43 : decode cX11_become 43 = .ok (.iconst 0, 1) := by decide +kernel
theorem dX11_become_44 : decode cX11_become 44 = .ok (.aaload, 1) := by decide +kernel
theorem dX11_become_45 : decode cX11_become 45 = .ok (.iload_n 1, 1) := by decide +kernel
theorem dX11_become_46 : decode cX11_become 46 = .ok (.iload_n 2, 1) := by decide +kernel
theorem dX11_become_47 : decode cX11_become 47 = .ok (.bipush 10, 2) := by decide +kernel
theorem dX11_become_49 : decode cX11_become 49 = .ok (.idiv, 1) := by decide +kernel
theorem dX11_become_50 : decode cX11_become 50 = .ok (.iastore, 1) := by decide +kernel
theorem dX11_become_51 : decode cX11_become 51 = .ok (.aload_n 0, 1) := by decide +kernel
theorem dX11_become_52 : decode cX11_become 52 = .ok (.getfield 42, 3) := by decide +kernel
theorem dX11_become_55 : decode cX11_become 55 = .ok (.getfield 99, 3) := by decide +kernel
theorem dX11_become_58 : decode cX11_become 58 = .ok (.iconst 1, 1) := by decide +kernel
theorem dX11_become_59 : decode cX11_become 59 = .ok (.aaload, 1) := by decide +kernel
theorem dX11_become_60 : decode cX11_become 60 = .ok (.iload_n 1, 1) := by decide +kernel
theorem dX11_become_61 : decode cX11_become 61 = .ok (.iload_n 2, 1) := by decide +kernel
theorem dX11_become_62 : decode cX11_become 62 = .ok (.bipush 10, 2) := by decide +kernel
theorem dX11_become_64 : decode cX11_become 64 = .ok (.irem, 1) := by decide +kernel
theorem dX11_become_65 : decode cX11_become 65 = .ok (.iastore, 1) := by decide +kernel
theorem dX11_become_66 : decode cX11_become 66 = .ok (.iload_n 3, 1) := by decide +kernel
theorem dX11_become_67 : decode cX11_become 67 = .ok (.ireturn, 1) := by decide +kernel
theorem dX11_as_0 : decode cX11_as 0 = .ok (.aload_n 0, 1) := by decide +kernel
theorem dX11_as_1 : decode cX11_as 1 = .ok (.iload_n 1, 1) := by decide +kernel
theorem dX11_as_2 : decode cX11_as 2 = .ok (.invokevirtual 92, 3) := by decide +kernel
theorem dX11_as_5 : decode cX11_as 5 = .ok (.ifCond .ne 13, 3) := by decide +kernel
theorem dX11_as_8 : decode cX11_as 8 = .ok (.iload_n 2, 1) := by decide +kernel
theorem dX11_as_9 : decode cX11_as 9 = .ok (.iconst 0, 1) := by decide +kernel
theorem dX11_as_10 : decode cX11_as 10 = .ok (.bipush 6, 2) := by decide +kernel
theorem dX11_as_12 : decode cX11_as 12 = .ok (.invokestatic 74, 3) := by decide +kernel
theorem dX11_as_15 : decode cX11_as 15 = .ok (.ifCond .eq 9, 3) := by decide +kernel
theorem dX11_as_18 : decode cX11_as 18 = .ok (.aload_n 0, 1) := by decide +kernel
theorem dX11_as_19 : decode cX11_as 19 = .ok (.iconst 1, 1) := by decide +kernel
theorem dX11_as_20 : decode cX11_as 20 = .ok (.invokevirtual 78, 3) := by decide +kernel
theorem dX11_as_23 : decode cX11_as 23 = .ok (.ireturn, 1) := by decide +kernel
theorem dX11_as_24 : decode cX11_as 24 = .ok (.aload_n 0, 1) := by decide +kernel
theorem dX11_as_25 : decode cX11_as 25 = .ok (.getfield 42, 3) := by decide +kernel
theorem dX11_as_28 : decode cX11_as 28 = .ok (.getfield 99, 3) := by decide +kernel
theorem dX11_as_31 : decode cX11_as 31 = .ok (.iconst 0, 1) := by decide +kernel
theorem dX11_as_32 : decode cX11_as 32 = .ok (.aaload, 1) := by decide +kernel
theorem dX11_as_33 : decode cX11_as 33 = .ok (.iload_n 1, 1) := by decide +kernel
theorem dX11_as_34 : decode cX11_as 34 = .ok (.iaload, 1) := by decide +kernel
theorem dX11_as_35 : decode cX11_as 35 = .ok (.iload_n 2, 1) := by decide +kernel
theorem dX11_as_36 : decode cX11_as 36 = .ok (.invokestatic 109, 3) := by decide +kernel
theorem dX11_as_39 : decode cX11_as 39 = .ok (.ifCond .ne 9, 3) := by decide +kernel
theorem dX11_as_42 : decode cX11_as 42 = .ok (.aload_n 0, 1) := by decide +kernel
theorem dX11_as_43 : decode cX11_as 43 = .ok (.iconst 5, 1) := by decide +kernel
theorem dX11_as_44 : decode cX11_as 44 = .ok (.invokevirtual 78, 3) := by decide +kernel
theorem dX11_as_47 : decode cX11_as 47 = .ok (.ireturn, 1) := by decide +kernel
theorem dX11_as_48 : decode cX11_as 48 = .ok (.aload_n 0, 1) := by decide +kernel
theorem dX11_as_49 : decode cX11_as 49 = .ok (.getfield 42, 3) := by decide +kernel
theorem dX11_as_52 : decode cX11_as 52 = .ok (.getfield 99, 3) := by decide +kernel
theorem dX11_as_55 : decode cX11_as 55 = .ok (.iconst 1, 1) := by decide +kernel
theorem dX11_as_56 : decode cX11_as 56 = .ok (.aaload, 1) := by decide +kernel
theorem dX11_as_57 : decode cX11_as 57 = .ok (.iload_n 1, 1) := by decide +kernel
theorem dX11_as_58 : decode cX11_as 58 = .ok (.iaload, 1) := by decide +kernel
theorem dX11_as_59 : decode cX11_as 59 = .ok (.ireturn, 1) := by decide +kernel
theorem dX11_shout_0 : decode cX11_shout 0 = .ok (.aload_n 0, 1) := by decide +kernel
theorem dX11_shout_1 : decode cX11_shout 1 = .ok (.iload_n 1, 1) := by decide +kernel
theorem dX11_shout_2 : decode cX11_shout 2 = .ok (.invokevirtual 92, 3) := by decide +kernel
theorem dX11_shout_5 : decode cX11_shout 5 = .ok (.ifCond .ne 13, 3) := by decide +kernel
theorem dX11_shout_8 : decode cX11_shout 8 = .ok (.iload_n 2, 1) := by decide +kernel
theorem dX11_shout_9 : decode cX11_shout 9 = .ok (.iconst 0, 1) := by decide +kernel
theorem dX11_shout_10 : decode cX11_shout 10 = .ok (.bipush 39, 2) := by decide +kernel
theorem dX11_shout_12 : decode cX11_shout 12 = .ok (.invokestatic 74, 3) := by decide +kernel
theorem dX11_shout_15 : decode cX11_shout 15 = .ok (.ifCond .eq 9, 3) := by decide +kernel
theorem dX11_shout_18 : decode cX11_shout 18 = .ok (.aload_n 0, 1) := by decide +kernel
theorem dX11_shout_19 : decode cX11_shout 19 = .ok (.iconst 1, 1) := by decide +kernel
theorem dX11_shout_20 : decode cX11_shout 20 = .ok (.invokevirtual 78, 3) := by decide +kernel
theorem dX11_shout_23 : decode cX11_shout 23 = .ok (.ireturn, 1) := by decide +kernel
theorem dX11_shout_24 : decode cX11_shout 24 = .ok (.aload_n 0, 1) := by decide +kernel
theorem dX11_shout_25 : decode cX11_shout 25 = .ok (.getfield 42, 3) := by decide +kernel
theorem dX11_shout_28 : decode cX11_shout 28 = .ok (.getfield 113, 3) := by decide +kernel
theorem dX11_shout_31 : decode cX11_shout 31 = .ok (.bipush 40, 2) := by decide +kernel
theorem dX11_shout_33 : decode cX11_shout 33 = .ok (.if_icmp .lt 9, 3) := by decide +kernel
theorem dX11_shout_36 : decode cX11_shout 36 = .ok (.aload_n 0, 1) := by decide +kernel
theorem dX11_shout_37 : decode cX11_shout 37 = .ok (.iconst 4, 1) := by decide +kernel
theorem dX11_shout_38 : decode cX11_shout 38 = .ok (.invokevirtual 78, 3) := by decide +kernel
theorem dX11_shout_41 : decode cX11_shout 41 = .ok (.ireturn, 1) := by decide +kernel
theorem dX11_shout_42 : decode cX11_shout 42 = .ok (.aload_n 0, 1) := by decide +kernel
theorem dX11_shout_43 : decode cX11_shout 43 = .ok (.getfield 42, 3) := by decide +kernel
theorem dX11_shout_46 : decode cX11_shout 46 = .ok (.iload_n 1, 1) := by decide +kernel
theorem dX11_shout_47 : decode cX11_shout 47 = .ok (.iload_n 2, 1) := by decide +kernel
theorem dX11_shout_48 : decode cX11_shout 48 = .ok (.iconst (-1), 1) := by decide +kernel
theorem dX11_shout_49 : decode cX11_shout 49 = .ok (.invokevirtual 116, 3) := by decide +kernel
theorem dX11_shout_52 : decode cX11_shout 52 = .ok (.aload_n 0, 1) := by decide +kernel
theorem dX11_shout_53 : decode cX11_shout 53 = .ok (.getfield 42, 3) := by decide +kernel
theorem dX11_shout_56 : decode cX11_shout 56 = .ok (.getfield 113, 3) := by decide +kernel
theorem dX11_shout_59 : decode cX11_shout 59 = .ok (.iconst 1, 1) := by decide +kernel
theorem dX11_shout_60 : decode cX11_shout 60 = .ok (.isub, 1) := by decide +kernel
theorem dX11_shout_61 : decode cX11_shout 61 = .ok (.ireturn, 1) := by decide +kernel
theorem dX11_ofShout_0 : decode cX11_ofShout 0 = .ok (.iload_n 1, 1) := by decide +kernel
theorem dX11_ofShout_1 : decode cX11_ofShout 1 = .ok (.iconst 0, 1) := by decide +kernel
theorem dX11_ofShout_2 : decode cX11_ofShout 2 = .ok (.aload_n 0, 1) := by decide +kernel
theorem dX11_ofShout_3 : decode cX11_ofShout 3 = .ok (.getfield 42, 3) := by decide +kernel
theorem dX11_ofShout_6 : decode cX11_ofShout 6 = .ok (.getfield 113, 3) := by decide +kernel
theorem dX11_ofShout_9 : decode cX11_ofShout 9 = .ok (.iconst 1, 1) := by decide +kernel
theorem dX11_ofShout_10 : decode cX11_ofShout 10 = .ok (.isub, 1) := by decide +kernel
theorem dX11_ofShout_11 : decode cX11_ofShout 11 = .ok (.invokestatic 74, 3) := by decide +kernel
theorem dX11_ofShout_14 : decode cX11_ofShout 14 = .ok (.ifCond .ne 12, 3) := by decide +kernel
theorem dX11_ofShout_17 : decode cX11_ofShout 17 = .ok (.iload_n 2, 1) := by decide +kernel
theorem dX11_ofShout_18 : decode cX11_ofShout 18 = .ok (.iconst 0, 1) := by decide +kernel
theorem dX11_ofShout_19 : decode cX11_ofShout 19 = .ok (.iconst 5, 1) := by decide +kernel
theorem dX11_ofShout_20 : decode cX11_ofShout 20 = .ok (.invokestatic 74, 3) := by decide +kernel
theorem dX11_ofShout_23 : decode cX11_ofShout 23 = .ok (.ifCond .eq 9, 3) := by decide +kernel
theorem dX11_ofShout_26 : decode cX11_ofShout 26 = .ok (.aload_n 0, 1) := by decide +kernel
theorem dX11_ofShout_27 : decode cX11_ofShout 27 = .ok (.iconst 1, 1) := by decide +kernel
theorem dX11_ofShout_28 : decode cX11_ofShout 28 = .ok (.invokevirtual 78, 3) := by decide +kernel
theorem dX11_ofShout_31 : decode cX11_ofShout 31 = .ok (.ireturn, 1) := by decide +kernel
theorem dX11_ofShout_32 : decode cX11_ofShout 32 = .ok (.aload_n 0, 1) := by decide +kernel
theorem dX11_ofShout_33 : decode cX11_ofShout 33 = .ok (.getfield 42, 3) := by decide +kernel
theorem dX11_ofShout_36 : decode cX11_ofShout 36 = .ok (.getfield 120, 3) := by decide +kernel
theorem dX11_ofShout_39 : decode cX11_ofShout 39 = .ok (.iload_n 2, 1) := by decide +kernel
theorem dX11_ofShout_40 : decode cX11_ofShout 40 = .ok (.aaload, 1) := by decide +kernel
theorem dX11_ofShout_41 : decode cX11_ofShout 41 = .ok (.iload_n 1, 1) := by decide +kernel
theorem dX11_ofShout_42 : decode cX11_ofShout 42 = .ok (.iaload, 1) := by decide +kernel
theorem dX11_ofShout_43 : decode cX11_ofShout 43 = .ok (.ireturn, 1) := by decide +kernel
theorem dX11_lead_0 : decode cX11_lead 0 = .ok (.iload_n 1, 1) := by decide +kernel
theorem dX11_lead_1 : decode cX11_lead 1 = .ok (.iconst 0, 1) := by decide +kernel
theorem dX11_lead_2 : decode cX11_lead 2 = .ok (.aload_n 0, 1) := by decide +kernel
theorem dX11_lead_3 : decode cX11_lead 3 = .ok (.getfield 42, 3) := by decide +kernel
theorem dX11_lead_6 : decode cX11_lead 6 = .ok (.getfield 113, 3) := by decide +kernel
theorem dX11_lead_9 : decode cX11_lead 9 = .ok (.iconst 1, 1) := by decide +kernel
theorem dX11_lead_10 : decode cX11_lead 10 = .ok (.isub, 1) := by decide +kernel
theorem dX11_lead_11 : decode cX11_lead 11 = .ok (.invokestatic 74, 3) := by decide +kernel
theorem dX11_lead_14 : decode cX11_lead 14 = .ok (.ifCond .ne 12, 3) := by decide +kernel
theorem dX11_lead_17 : decode cX11_lead 17 = .ok (.iload_n 2, 1) := by decide +kernel
theorem dX11_lead_18 : decode cX11_lead 18 = .ok (.iconst 0, 1) := by decide +kernel
theorem dX11_lead_19 : decode cX11_lead 19 = .ok (.iconst 1, 1) := by decide +kernel
theorem dX11_lead_20 : decode cX11_lead 20 = .ok (.invokestatic 74, 3) := by decide +kernel
theorem dX11_lead_23 : decode cX11_lead 23 = .ok (.ifCond .eq 9, 3) := by decide +kernel
theorem dX11_lead_26 : decode cX11_lead 26 = .ok (.aload_n 0, 1) := by decide +kernel
theorem dX11_lead_27 : decode cX11_lead 27 = .ok (.iconst 1, 1) := by decide +kernel
theorem dX11_lead_28 : decode cX11_lead 28 = .ok (.invokevirtual 78, 3) := by decide +kernel
theorem dX11_lead_31 : decode cX11_lead 31 = .ok (.ireturn, 1) := by decide +kernel
theorem dX11_lead_32 : decode cX11_lead 32 = .ok (.iload_n 1, 1) := by decide +kernel
theorem dX11_lead_33 : decode cX11_lead 33 = .ok (.istore_n 3, 1) := by decide +kernel
theorem dX11_lead_34 : decode cX11_lead 34 = .ok (.iconst 1, 1) := by decide +kernel
theorem dX11_lead_35 : decode cX11_lead 35 = .ok (.istore 4, 2) := by decide +kernel
theorem dX11_lead_37 : decode cX11_lead 37 = .ok (.iconst 0, 1) := by decide +kernel
theorem dX11_lead_38 : decode cX11_lead 38 = .ok (.istore 5, 2) := by decide +kernel
theorem dX11_lead_40 : decode cX11_lead 40 = .ok (.iload 5, 2) := by decide +kernel
theorem dX11_lead_42 : decode cX11_lead 42 = .ok (.aload_n 0, 1) := by decide +kernel
theorem dX11_lead_43 : decode cX11_lead 43 = .ok (.getfield 42, 3) := by decide +kernel
theorem dX11_lead_46 : decode cX11_lead 46 = .ok (.getfield 113, 3) := by decide +kernel
theorem dX11_lead_49 : decode cX11_lead 49 = .ok (.if_icmp .ge 49, 3) := by decide +kernel
theorem dX11_lead_52 : decode cX11_lead 52 = .ok (.aload_n 0, 1) := by decide +kernel
theorem dX11_lead_53 : decode cX11_lead 53 = .ok (.getfield 42, 3) := by decide +kernel
theorem dX11_lead_56 : decode cX11_lead 56 = .ok (.getfield 120, 3) := by decide +kernel
theorem dX11_lead_59 : decode cX11_lead 59 = .ok (.iconst 4, 1) := by decide +kernel
theorem dX11_lead_60 : decode cX11_lead 60 = .ok (.aaload, 1) := by decide +kernel
theorem dX11_lead_61 : decode cX11_lead 61 = .ok (.iload_n 3, 1) := by decide +kernel
theorem dX11_lead_62 : decode cX11_lead 62 = .ok (.iaload, 1) := by decide +kernel
theorem dX11_lead_63 : decode cX11_lead 63 = .ok (.istore 6, 2) := by decide +kernel
theorem dX11_lead_65 : decode cX11_lead 65 = .ok (.iload 6, 2) := by decide +kernel
theorem dX11_lead_67 : decode cX11_lead 67 = .ok (.iconst 0, 1) := by decide +kernel
theorem dX11_lead_68 : decode cX11_lead 68 = .ok (.aload_n 0, 1) := by decide +kernel
theorem dX11_lead_69 : decode cX11_lead 69 = .ok (.getfield 42, 3) := by decide +kernel
theorem dX11_lead_72 : decode cX11_lead 72 = .ok (.getfield 113, 3) := by decide +kernel
theorem dX11_lead_75 : decode cX11_lead 75 = .ok (.iconst 1, 1) := by decide +kernel
theorem dX11_lead_76 : decode cX11_lead 76 = .ok (.isub, 1) := by decide +kernel
theorem dX11_lead_77 : decode cX11_lead 77 = .ok (.invokestatic 74, 3) := by decide +kernel
theorem dX11_lead_80 : decode cX11_lead 80 = .ok (.ifCond .eq 6, 3) := by decide +kernel
theorem dX11_lead_83 : decode cX11_lead 83 = .ok (.goto 15, 3) := by decide +kernel
theorem dX11_lead_86 : decode cX11_lead 86 = .ok (.iload 6, 2) := by decide +kernel
theorem dX11_lead_88 : decode cX11_lead 88 = .ok (.istore_n 3, 1) := by decide +kernel
theorem dX11_lead_89 : decode cX11_lead 89 = .ok (.iinc 4 1, 3) := by decide +kernel
theorem dX11_lead_92 : decode cX11_lead 92 = .ok (.iinc 5 1, 3) := by decide +kernel
theorem dX11_lead_95 : decode cX11_lead 95 = .ok (.goto (-55), 3) := by decide +kernel
theorem dX11_lead_98 : decode cX11_lead 98 = .ok (.iload_n 2, 1) := by decide +kernel
theorem dX11_lead_99 : decode cX11_lead 99 = .ok (.ifCond .ne 7, 3) := by decide +kernel
theorem dX11_lead_102 : decode cX11_lead 102 = .ok (.iload_n 3, 1) := by decide +kernel
theorem dX11_lead_103 : decode cX11_lead 103 = .ok (.goto 5, 3) := by decide +kernel
theorem dX11_lead_106 : decode cX11_lead 106 = .ok (.iload 4, 2) := by decide +kernel
theorem dX11_lead_108 : decode cX11_lead 108 = .ok (.ireturn, 1) := by decide +kernel
theorem dX11_taught_0 : decode cX11_taught 0 = .ok (.aload_n 0, 1) := by decide +kernel
theorem dX11_taught_1 : decode cX11_taught 1 = .ok (.getfield 42, 3) := by decide +kernel
theorem dX11_taught_4 : decode cX11_taught 4 = .ok (.invokevirtual 123, 3) := by decide +kernel
theorem dX11_taught_7 : decode cX11_taught 7 = .ok (.ireturn, 1) := by decide +kernel
theorem dX11_forget_0 : decode cX11_forget 0 = .ok (.aload_n 0, 1) := by decide +kernel
theorem dX11_forget_1 : decode cX11_forget 1 = .ok (.getfield 42, 3) := by decide +kernel
theorem dX11_forget_4 : decode cX11_forget 4 = .ok (.getfield 113, 3) := by decide +kernel
theorem dX11_forget_7 : decode cX11_forget 7 = .ok (.istore_n 1, 1) := by decide +kernel
theorem dX11_forget_8 : decode cX11_forget 8 = .ok (.aload_n 0, 1) := by decide +kernel
theorem dX11_forget_9 : decode cX11_forget 9 = .ok (.getfield 42, 3) := by decide +kernel
theorem dX11_forget_12 : decode cX11_forget 12 = .ok (.iconst 0, 1) := by decide +kernel
theorem dX11_forget_13 : decode cX11_forget 13 = .ok (.putfield 113, 3) := by decide +kernel
theorem dX11_forget_16 : decode cX11_forget 16 = .ok (.aload_n 0, 1) := by decide +kernel
theorem dX11_forget_17 : decode cX11_forget 17 = .ok (.getfield 42, 3) := by decide +kernel
theorem dX11_forget_20 : decode cX11_forget 20 = .ok (.iconst 0, 1) := by decide +kernel
theorem dX11_forget_21 : decode cX11_forget 21 = .ok (.putfield 127, 3) := by decide +kernel
theorem dX11_forget_24 : decode cX11_forget 24 = .ok (.iload_n 1, 1) := by decide +kernel
theorem dX11_forget_25 : decode cX11_forget 25 = .ok (.ireturn, 1) := by decide +kernel
theorem dX11_feed_0 : decode cX11_feed 0 = .ok (.iload_n 3, 1) := by decide +kernel
theorem dX11_feed_1 : decode cX11_feed 1 = .ok (.iconst 1, 1) := by decide +kernel
theorem dX11_feed_2 : decode cX11_feed 2 = .ok (.bipush 8, 2) := by decide +kernel
theorem dX11_feed_4 : decode cX11_feed 4 = .ok (.invokestatic 74, 3) := by decide +kernel
theorem dX11_feed_7 : decode cX11_feed 7 = .ok (.ifCond .eq 9, 3) := by decide +kernel
theorem dX11_feed_10 : decode cX11_feed 10 = .ok (.aload_n 0, 1) := by decide +kernel
theorem dX11_feed_11 : decode cX11_feed 11 = .ok (.iconst 1, 1) := by decide +kernel
theorem dX11_feed_12 : decode cX11_feed 12 = .ok (.invokevirtual 78, 3) := by decide +kernel
theorem dX11_feed_15 : decode cX11_feed 15 = .ok (.ireturn, 1) := by decide +kernel
theorem dX11_feed_16 : decode cX11_feed 16 = .ok (.aload_n 0, 1) := by decide +kernel
theorem dX11_feed_17 : decode cX11_feed 17 = .ok (.getfield 42, 3) := by decide +kernel
theorem dX11_feed_20 : decode cX11_feed 20 = .ok (.getfield 130, 3) := by decide +kernel
theorem dX11_feed_23 : decode cX11_feed 23 = .ok (.iload_n 3, 1) := by decide +kernel
theorem dX11_feed_24 : decode cX11_feed 24 = .ok (.iadd, 1) := by decide +kernel
theorem dX11_feed_25 : decode cX11_feed 25 = .ok (.bipush 50, 2) := by decide +kernel
theorem dX11_feed_27 : decode cX11_feed 27 = .ok (.if_icmp .le 9, 3) := by decide +kernel
theorem dX11_feed_30 : decode cX11_feed 30 = .ok (.aload_n 0, 1) := by decide +kernel
theorem dX11_feed_31 : decode cX11_feed 31 = .ok (.iconst 4, 1) := by decide +kernel
theorem dX11_feed_32 : decode cX11_feed 32 = .ok (.invokevirtual 78, 3) := by decide +kernel
theorem dX11_feed_35 : decode cX11_feed 35 = .ok (.ireturn, 1) := by decide +kernel
theorem dX11_feed_36 : decode cX11_feed 36 = .ok (.iconst 0, 1) := by decide +kernel
theorem dX11_feed_37 : decode cX11_feed 37 = .ok (.istore 4, 2) := by decide +kernel
theorem dX11_feed_39 : decode cX11_feed 39 = .ok (.iload 4, 2) := by decide +kernel
theorem dX11_feed_41 : decode cX11_feed 41 = .ok (.iload_n 3, 1) := by decide +kernel
theorem dX11_feed_42 : decode cX11_feed 42 = .ok (.if_icmp .ge 39, 3) := by decide +kernel
theorem dX11_feed_45 : decode cX11_feed 45 = .ok (.aload_n 0, 1) := by decide +kernel
theorem dX11_feed_46 : decode cX11_feed 46 = .ok (.getfield 42, 3) := by decide +kernel
theorem dX11_feed_49 : decode cX11_feed 49 = .ok (.getfield 133, 3) := by decide +kernel
theorem dX11_feed_52 : decode cX11_feed 52 = .ok (.aload_n 0, 1) := by decide +kernel
theorem dX11_feed_53 : decode cX11_feed 53 = .ok (.getfield 42, 3) := by decide +kernel
theorem dX11_feed_56 : decode cX11_feed 56 = .ok (.getfield 130, 3) := by decide +kernel
theorem dX11_feed_59 : decode cX11_feed 59 = .ok (.iload 4, 2) := by decide +kernel
theorem dX11_feed_61 : decode cX11_feed 61 = .ok (.iadd, 1) := by decide +kernel
theorem dX11_feed_62 : decode cX11_feed 62 = .ok (.lload_n 1, 1) := by decide +kernel
theorem dX11_feed_63 : decode cX11_feed 63 = .ok (.bipush 8, 2) := by decide +kernel
theorem dX11_feed_65 : decode cX11_feed 65 = .ok (.iload 4, 2) := by decide +kernel
theorem dX11_feed_67 : decode cX11_feed 67 = .ok (.imul, 1) := by decide +kernel
theorem dX11_feed_68 : decode cX11_feed 68 = .ok (.lushr, 1) := by decide +kernel
theorem dX11_feed_69 : decode cX11_feed 69 = .ok (.l2i, 1) := by decide +kernel
theorem dX11_feed_70 : decode cX11_feed 70 = .ok (.sipush 255, 3) := by decide +kernel
theorem dX11_feed_73 : decode cX11_feed 73 = .ok (.iand, 1) := by decide +kernel
theorem dX11_feed_74 : decode cX11_feed 74 = .ok (.iastore, 1) := by decide +kernel
theorem dX11_feed_75 : decode cX11_feed 75 = .ok (.iinc 4 1, 3) := by decide +kernel
theorem dX11_feed_78 : decode cX11_feed 78 = .ok (.goto (-39), 3) := by decide +kernel
theorem dX11_feed_81 : decode cX11_feed 81 = .ok (.aload_n 0, 1) := by decide +kernel
theorem dX11_feed_82 : decode cX11_feed 82 = .ok (.getfield 42, 3) := by decide +kernel
theorem dX11_feed_85 : decode cX11_feed 85 = .ok (.dup, 1) := by decide +kernel
theorem dX11_feed_86 : decode cX11_feed 86 = .ok (.getfield 130, 3) := by decide +kernel
theorem dX11_feed_89 : decode cX11_feed 89 = .ok (.iload_n 3, 1) := by decide +kernel
theorem dX11_feed_90 : decode cX11_feed 90 = .ok (.iadd, 1) := by decide +kernel
theorem dX11_feed_91 : decode cX11_feed 91 = .ok (.putfield 130, 3) := by decide +kernel
theorem dX11_feed_94 : decode cX11_feed 94 = .ok (.aload_n 0, 1) := by decide +kernel
theorem dX11_feed_95 : decode cX11_feed 95 = .ok (.getfield 42, 3) := by decide +kernel
theorem dX11_feed_98 : decode cX11_feed 98 = .ok (.getfield 130, 3) := by decide +kernel
theorem dX11_feed_101 : decode cX11_feed 101 = .ok (.ireturn, 1) := by decide +kernel
theorem dX11_text_0 : decode cX11_text 0 = .ok (.iload_n 1, 1) := by decide +kernel
theorem dX11_text_1 : decode cX11_text 1 = .ok (.iconst 0, 1) := by decide +kernel
theorem dX11_text_2 : decode cX11_text 2 = .ok (.iconst 1, 1) := by decide +kernel
theorem dX11_text_3 : decode cX11_text 3 = .ok (.invokestatic 74, 3) := by decide +kernel
theorem dX11_text_6 : decode cX11_text 6 = .ok (.ifCond .eq 9, 3) := by decide +kernel
theorem dX11_text_9 : decode cX11_text 9 = .ok (.aload_n 0, 1) := by decide +kernel
theorem dX11_text_10 : decode cX11_text 10 = .ok (.iconst 1, 1) := by decide +kernel
theorem dX11_text_11 : decode cX11_text 11 = .ok (.invokevirtual 78, 3) := by decide +kernel
theorem dX11_text_14 : decode cX11_text 14 = .ok (.ireturn, 1) := by decide +kernel
theorem dX11_text_15 : decode cX11_text 15 = .ok (.aload_n 0, 1) := by decide +kernel
theorem dX11_text_16 : decode cX11_text 16 = .ok (.getfield 10, 3) := by decide +kernel
theorem dX11_text_19 : decode cX11_text 19 = .ok (.aload_n 0, 1) := by decide +kernel
theorem dX11_text_20 : decode cX11_text 20 = .ok (.getfield 42, 3) := by decide +kernel
theorem dX11_text_23 : decode cX11_text 23 = .ok (.getfield 133, 3) := by decide +kernel
theorem dX11_text_26 : decode cX11_text 26 = .ok (.aload_n 0, 1) := by decide +kernel
theorem dX11_text_27 : decode cX11_text 27 = .ok (.getfield 42, 3) := by decide +kernel
theorem dX11_text_30 : decode cX11_text 30 = .ok (.getfield 130, 3) := by decide +kernel
theorem dX11_text_33 : decode cX11_text 33 = .ok (.iload_n 1, 1) := by decide +kernel
theorem dX11_text_34 : decode cX11_text 34 = .ok (.ifCond .ne 8, 3) := by decide +kernel
theorem dX11_text_37 : decode cX11_text 37 = .ok (.ldc 136, 2) := by decide +kernel
theorem dX11_text_39 : decode cX11_text 39 = .ok (.goto 5, 3) := by decide +kernel
theorem dX11_text_42 : decode cX11_text 42 = .ok (.ldc 138, 2) := by decide +kernel
theorem dX11_text_44 : decode cX11_text 44 = .ok (.invokevirtual 140, 3) := by decide +kernel
theorem dX11_text_47 : decode cX11_text 47 = .ok (.astore_n 2, 1) := by decide +kernel
theorem dX11_text_48 : decode cX11_text 48 = .ok (.aload_n 0, 1) := by decide +kernel
theorem dX11_text_49 : decode cX11_text 49 = .ok (.getfield 42, 3) := by decide +kernel
theorem dX11_text_52 : decode cX11_text 52 = .ok (.iconst 0, 1) := by decide +kernel
theorem dX11_text_53 : decode cX11_text 53 = .ok (.putfield 130, 3) := by decide +kernel
theorem dX11_text_56 : decode cX11_text 56 = .ok (.aload_n 2, 1) := by decide +kernel
theorem dX11_text_57 : decode cX11_text 57 = .ok (.ifnonnull 14, 3) := by decide +kernel
theorem dX11_text_60 : decode cX11_text 60 = .ok (.bipush (-10), 2) := by decide +kernel
theorem dX11_text_62 : decode cX11_text 62 = .ok (.aload_n 0, 1) := by decide +kernel
theorem dX11_text_63 : decode cX11_text 63 = .ok (.getfield 10, 3) := by decide +kernel
theorem dX11_text_66 : decode cX11_text 66 = .ok (.getfield 144, 3) := by decide +kernel
theorem dX11_text_69 : decode cX11_text 69 = .ok (.isub, 1) := by decide +kernel
theorem dX11_text_70 : decode cX11_text 70 = .ok (.ireturn, 1) := by decide +kernel
theorem dX11_text_71 : decode cX11_text 71 = .ok (.iload_n 1, 1) := by decide +kernel
theorem dX11_text_72 : decode cX11_text 72 = .ok (.ifCond .ne 14, 3) := by decide +kernel
theorem dX11_text_75 : decode cX11_text 75 = .ok (.aload_n 0, 1) := by decide +kernel
theorem dX11_text_76 : decode cX11_text 76 = .ok (.getfield 42, 3) := by decide +kernel
theorem dX11_text_79 : decode cX11_text 79 = .ok (.aload_n 2, 1) := by decide +kernel
theorem dX11_text_80 : decode cX11_text 80 = .ok (.putfield 147, 3) := by decide +kernel
theorem dX11_text_83 : decode cX11_text 83 = .ok (.goto 11, 3) := by decide +kernel
theorem dX11_text_86 : decode cX11_text 86 = .ok (.aload_n 0, 1) := by decide +kernel
theorem dX11_text_87 : decode cX11_text 87 = .ok (.getfield 42, 3) := by decide +kernel
theorem dX11_text_90 : decode cX11_text 90 = .ok (.aload_n 2, 1) := by decide +kernel
theorem dX11_text_91 : decode cX11_text 91 = .ok (.putfield 150, 3) := by decide +kernel
theorem dX11_text_94 : decode cX11_text 94 = .ok (.iconst 1, 1) := by decide +kernel
theorem dX11_text_95 : decode cX11_text 95 = .ok (.ireturn, 1) := by decide +kernel
theorem dX11_law_0 : decode cX11_law 0 = .ok (.iload_n 1, 1) := by decide +kernel
theorem dX11_law_1 : decode cX11_law 1 = .ok (.iconst 0, 1) := by decide +kernel
theorem dX11_law_2 : decode cX11_law 2 = .ok (.iconst 1, 1) := by decide +kernel
theorem dX11_law_3 : decode cX11_law 3 = .ok (.invokestatic 74, 3) := by decide +kernel
theorem dX11_law_6 : decode cX11_law 6 = .ok (.ifCond .eq 9, 3) := by decide +kernel
theorem dX11_law_9 : decode cX11_law 9 = .ok (.aload_n 0, 1) := by decide +kernel
theorem dX11_law_10 : decode cX11_law 10 = .ok (.iconst 1, 1) := by decide +kernel
theorem dX11_law_11 : decode cX11_law 11 = .ok (.invokevirtual 78, 3) := by decide +kernel
theorem dX11_law_14 : decode cX11_law 14 = .ok (.ireturn, 1) := by decide +kernel
theorem dX11_law_15 : decode cX11_law 15 = .ok (.aload_n 0, 1) := by decide +kernel
theorem dX11_law_16 : decode cX11_law 16 = .ok (.getfield 42, 3) := by decide +kernel
theorem dX11_law_19 : decode cX11_law 19 = .ok (.iload_n 1, 1) := by decide +kernel
theorem dX11_law_20 : decode cX11_law 20 = .ok (.iload_n 2, 1) := by decide +kernel
theorem dX11_law_21 : decode cX11_law 21 = .ok (.iload_n 3, 1) := by decide +kernel
theorem dX11_law_22 : decode cX11_law 22 = .ok (.iload 4, 2) := by decide +kernel
theorem dX11_law_24 : decode cX11_law 24 = .ok (.iload 5, 2) := by decide +kernel
theorem dX11_law_26 : decode cX11_law 26 = .ok (.invokevirtual 153, 3) := by decide +kernel
theorem dX11_law_29 : decode cX11_law 29 = .ok (.ireturn, 1) := by decide +kernel
theorem dX11_seconds_0 : decode cX11_seconds 0 = .ok (.aload_n 0, 1) := by decide +kernel
theorem dX11_seconds_1 : decode cX11_seconds 1 = .ok (.iload_n 1, 1) := by decide +kernel
theorem dX11_seconds_2 : decode cX11_seconds 2 = .ok (.iconst 0, 1) := by decide +kernel
theorem dX11_seconds_3 : decode cX11_seconds 3 = .ok (.invokevirtual 157, 3) := by decide +kernel
theorem dX11_seconds_6 : decode cX11_seconds 6 = .ok (.ireturn, 1) := by decide +kernel
theorem dX11_loose_0 : decode cX11_loose 0 = .ok (.aload_n 0, 1) := by decide +kernel
theorem dX11_loose_1 : decode cX11_loose 1 = .ok (.iload_n 1, 1) := by decide +kernel
theorem dX11_loose_2 : decode cX11_loose 2 = .ok (.iconst 1, 1) := by decide +kernel
theorem dX11_loose_3 : decode cX11_loose 3 = .ok (.invokevirtual 157, 3) := by decide +kernel
theorem dX11_loose_6 : decode cX11_loose 6 = .ok (.ireturn, 1) := by decide +kernel
theorem dX11_then_0 : decode cX11_then 0 = .ok (.iload_n 1, 1) := by decide +kernel
theorem dX11_then_1 : decode cX11_then 1 = .ok (.iconst 0, 1) := by decide +kernel
theorem dX11_then_2 : decode cX11_then 2 = .ok (.sipush 200, 3) := by decide +kernel
theorem dX11_then_5 : decode cX11_then 5 = .ok (.invokestatic 74, 3) := by decide +kernel
theorem dX11_then_8 : decode cX11_then 8 = .ok (.ifCond .ne 12, 3) := by decide +kernel
theorem dX11_then_11 : decode cX11_then 11 = .ok (.iload_n 2, 1) := by decide +kernel
theorem dX11_then_12 : decode cX11_then 12 = .ok (.iconst 0, 1) := by decide +kernel
theorem dX11_then_13 : decode cX11_then 13 = .ok (.iconst 2, 1) := by decide +kernel
theorem dX11_then_14 : decode cX11_then 14 = .ok (.invokestatic 74, 3) := by decide +kernel
theorem dX11_then_17 : decode cX11_then 17 = .ok (.ifCond .eq 9, 3) := by decide +kernel
theorem dX11_then_20 : decode cX11_then 20 = .ok (.aload_n 0, 1) := by decide +kernel
theorem dX11_then_21 : decode cX11_then 21 = .ok (.iconst 1, 1) := by decide +kernel
theorem dX11_then_22 : decode cX11_then 22 = .ok (.invokevirtual 78, 3) := by decide +kernel
theorem dX11_then_25 : decode cX11_then 25 = .ok (.ireturn, 1) := by decide +kernel
theorem dX11_then_26 : decode cX11_then 26 = .ok (.aload_n 0, 1) := by decide +kernel
theorem dX11_then_27 : decode cX11_then 27 = .ok (.iload_n 1, 1) := by decide +kernel
theorem dX11_then_28 : decode cX11_then 28 = .ok (.invokevirtual 161, 3) := by decide +kernel
theorem dX11_then_31 : decode cX11_then 31 = .ok (.iload_n 2, 1) := by decide +kernel
theorem dX11_then_32 : decode cX11_then 32 = .ok (.ifCond .ne 11, 3) := by decide +kernel
theorem dX11_then_35 : decode cX11_then 35 = .ok (.aload_n 0, 1) := by decide +kernel
theorem dX11_then_36 : decode cX11_then 36 = .ok (.getfield 49, 3) := by decide +kernel
theorem dX11_then_39 : decode cX11_then 39 = .ok (.getfield 113, 3) := by decide +kernel
theorem dX11_then_42 : decode cX11_then 42 = .ok (.ireturn, 1) := by decide +kernel
theorem dX11_then_43 : decode cX11_then 43 = .ok (.iload_n 2, 1) := by decide +kernel
theorem dX11_then_44 : decode cX11_then 44 = .ok (.iconst 1, 1) := by decide +kernel
theorem dX11_then_45 : decode cX11_then 45 = .ok (.if_icmp .ne 13, 3) := by decide +kernel
theorem dX11_then_48 : decode cX11_then 48 = .ok (.aload_n 0, 1) := by decide +kernel
theorem dX11_then_49 : decode cX11_then 49 = .ok (.getfield 49, 3) := by decide +kernel
theorem dX11_then_52 : decode cX11_then 52 = .ok (.getfield 127, 3) := by decide +kernel
theorem dX11_then_55 : decode cX11_then 55 = .ok (.goto 10, 3) := by decide +kernel
theorem dX11_then_58 : decode cX11_then 58 = .ok (.aload_n 0, 1) := by decide +kernel
theorem dX11_then_59 : decode cX11_then 59 = .ok (.getfield 49, 3) := by decide +kernel
theorem dX11_then_62 : decode cX11_then 62 = .ok (.invokevirtual 123, 3) := by decide +kernel
theorem dX11_then_65 : decode cX11_then 65 = .ok (.ireturn, 1) := by decide +kernel
theorem dX11_thenShout_0 : decode cX11_thenShout 0 = .ok (.iload_n 1, 1) := by decide +kernel
theorem dX11_thenShout_1 : decode cX11_thenShout 1 = .ok (.iconst 0, 1) := by decide +kernel
theorem dX11_thenShout_2 : decode cX11_thenShout 2 = .ok (.sipush 200, 3) := by decide +kernel
theorem dX11_thenShout_5 : decode cX11_thenShout 5 = .ok (.invokestatic 74, 3) := by decide +kernel
theorem dX11_thenShout_8 : decode cX11_thenShout 8 = .ok (.ifCond .ne 22, 3) := by decide +kernel
theorem dX11_thenShout_11 : decode cX11_thenShout 11 = .ok (.iload_n 2, 1) := by decide +kernel
theorem dX11_thenShout_12 : decode cX11_thenShout 12 = .ok (.iconst 0, 1) := by decide +kernel
theorem dX11_thenShout_13 : decode cX11_thenShout 13 = .ok (.bipush 39, 2) := by decide +kernel
theorem dX11_thenShout_15 : decode cX11_thenShout 15 = .ok (.invokestatic 74, 3) := by decide +kernel
theorem dX11_thenShout_18 : decode cX11_thenShout 18 = .ok (.ifCond .ne 12, 3) := by decide +kernel
theorem dX11_thenShout_21 : decode cX11_thenShout 21 = .ok (.iload_n 3, 1) := by decide +kernel
theorem dX11_thenShout_22 : decode cX11_thenShout 22 = .ok (.iconst 0, 1) := by decide +kernel
theorem dX11_thenShout_23 : decode cX11_thenShout 23 = .ok (.iconst 5, 1) := by decide +kernel
theorem dX11_thenShout_24 : decode cX11_thenShout 24 = .ok (.invokestatic 74, 3) := by decide +kernel
theorem dX11_thenShout_27 : decode cX11_thenShout 27 = .ok (.ifCond .eq 9, 3) := by decide +kernel
theorem dX11_thenShout_30 : decode cX11_thenShout 30 = .ok (.aload_n 0, 1) := by decide +kernel
theorem dX11_thenShout_31 : decode cX11_thenShout 31 = .ok (.iconst 1, 1) := by decide +kernel
theorem dX11_thenShout_32 : decode cX11_thenShout 32 = .ok (.invokevirtual 78, 3) := by decide +kernel
theorem dX11_thenShout_35 : decode cX11_thenShout 35 = .ok (.ireturn, 1) := by decide +kernel
theorem dX11_thenShout_36 : decode cX11_thenShout 36 = .ok (.aload_n 0, 1) := by decide +kernel
theorem dX11_thenShout_37 : decode cX11_thenShout 37 = .ok (.iload_n 1, 1) := by decide +kernel
theorem dX11_thenShout_38 : decode cX11_thenShout 38 = .ok (.invokevirtual 161, 3) := by decide +kernel
theorem dX11_thenShout_41 : decode cX11_thenShout 41 = .ok (.iload_n 2, 1) := by decide +kernel
theorem dX11_thenShout_42 : decode cX11_thenShout 42 = .ok (.aload_n 0, 1) := by decide +kernel
theorem dX11_thenShout_43 : decode cX11_thenShout 43 = .ok (.getfield 49, 3) := by decide +kernel
theorem dX11_thenShout_46 : decode cX11_thenShout 46 = .ok (.getfield 113, 3) := by decide +kernel
theorem dX11_thenShout_49 : decode cX11_thenShout 49 = .ok (.if_icmp .lt 9, 3) := by decide +kernel
theorem dX11_thenShout_52 : decode cX11_thenShout 52 = .ok (.aload_n 0, 1) := by decide +kernel
theorem dX11_thenShout_53 : decode cX11_thenShout 53 = .ok (.iconst 2, 1) := by decide +kernel
theorem dX11_thenShout_54 : decode cX11_thenShout 54 = .ok (.invokevirtual 78, 3) := by decide +kernel
theorem dX11_thenShout_57 : decode cX11_thenShout 57 = .ok (.ireturn, 1) := by decide +kernel
theorem dX11_thenShout_58 : decode cX11_thenShout 58 = .ok (.aload_n 0, 1) := by decide +kernel
theorem dX11_thenShout_59 : decode cX11_thenShout 59 = .ok (.getfield 49, 3) := by decide +kernel
theorem dX11_thenShout_62 : decode cX11_thenShout 62 = .ok (.getfield 120, 3) := by decide +kernel
theorem dX11_thenShout_65 : decode cX11_thenShout 65 = .ok (.iload_n 3, 1) := by decide +kernel
theorem dX11_thenShout_66 : decode cX11_thenShout 66 = .ok (.aaload, 1) := by decide +kernel
theorem dX11_thenShout_67 : decode cX11_thenShout 67 = .ok (.iload_n 2, 1) := by decide +kernel
theorem dX11_thenShout_68 : decode cX11_thenShout 68 = .ok (.iaload, 1) := by decide +kernel
theorem dX11_thenShout_69 : decode cX11_thenShout 69 = .ok (.ireturn, 1) := by decide +kernel
theorem dX11_lesson_0 : decode cX11_lesson 0 = .ok (.aload_n 0, 1) := by decide +kernel
theorem dX11_lesson_1 : decode cX11_lesson 1 = .ok (.iload_n 1, 1) := by decide +kernel
theorem dX11_lesson_2 : decode cX11_lesson 2 = .ok (.invokevirtual 165, 3) := by decide +kernel
theorem dX11_lesson_5 : decode cX11_lesson 5 = .ok (.ifCond .eq 9, 3) := by decide +kernel
theorem dX11_lesson_8 : decode cX11_lesson 8 = .ok (.aload_n 0, 1) := by decide +kernel
theorem dX11_lesson_9 : decode cX11_lesson 9 = .ok (.iconst 1, 1) := by decide +kernel
theorem dX11_lesson_10 : decode cX11_lesson 10 = .ok (.invokevirtual 78, 3) := by decide +kernel
theorem dX11_lesson_13 : decode cX11_lesson 13 = .ok (.ireturn, 1) := by decide +kernel
theorem dX11_lesson_14 : decode cX11_lesson 14 = .ok (.aload_n 0, 1) := by decide +kernel
theorem dX11_lesson_15 : decode cX11_lesson 15 = .ok (.getfield 54, 3) := by decide +kernel
theorem dX11_lesson_18 : decode cX11_lesson 18 = .ok (.iload_n 1, 1) := by decide +kernel
theorem dX11_lesson_19 : decode cX11_lesson 19 = .ok (.aaload, 1) := by decide +kernel
theorem dX11_lesson_20 : decode cX11_lesson 20 = .ok (.invokevirtual 168, 3) := by decide +kernel
theorem dX11_lesson_23 : decode cX11_lesson 23 = .ok (.ifCond .eq 9, 3) := by decide +kernel
theorem dX11_lesson_26 : decode cX11_lesson 26 = .ok (.aload_n 0, 1) := by decide +kernel
theorem dX11_lesson_27 : decode cX11_lesson 27 = .ok (.iconst 2, 1) := by decide +kernel
theorem dX11_lesson_28 : decode cX11_lesson 28 = .ok (.invokevirtual 78, 3) := by decide +kernel
theorem dX11_lesson_31 : decode cX11_lesson 31 = .ok (.ireturn, 1) := by decide +kernel
theorem dX11_lesson_32 : decode cX11_lesson 32 = .ok (.aload_n 0, 1) := by decide +kernel
theorem dX11_lesson_33 : decode cX11_lesson 33 = .ok (.getfield 54, 3) := by decide +kernel
theorem dX11_lesson_36 : decode cX11_lesson 36 = .ok (.iload_n 1, 1) := by decide +kernel
theorem dX11_lesson_37 : decode cX11_lesson 37 = .ok (.aaload, 1) := by decide +kernel
theorem dX11_lesson_38 : decode cX11_lesson 38 = .ok (.aload_n 0, 1) := by decide +kernel
theorem dX11_lesson_39 : decode cX11_lesson 39 = .ok (.getfield 42, 3) := by decide +kernel
theorem dX11_lesson_42 : decode cX11_lesson 42 = .ok (.invokevirtual 172, 3) := by decide +kernel
theorem dX11_lesson_45 : decode cX11_lesson 45 = .ok (.invokevirtual 175, 3) := by decide +kernel
theorem dX11_lesson_48 : decode cX11_lesson 48 = .ok (.ireturn, 1) := by decide +kernel
theorem dX11_poem_0 : decode cX11_poem 0 = .ok (.aload_n 0, 1) := by decide +kernel
theorem dX11_poem_1 : decode cX11_poem 1 = .ok (.iload_n 1, 1) := by decide +kernel
theorem dX11_poem_2 : decode cX11_poem 2 = .ok (.invokevirtual 165, 3) := by decide +kernel
theorem dX11_poem_5 : decode cX11_poem 5 = .ok (.ifCond .ne 12, 3) := by decide +kernel
theorem dX11_poem_8 : decode cX11_poem 8 = .ok (.iload_n 2, 1) := by decide +kernel
theorem dX11_poem_9 : decode cX11_poem 9 = .ok (.iconst 0, 1) := by decide +kernel
theorem dX11_poem_10 : decode cX11_poem 10 = .ok (.iconst 1, 1) := by decide +kernel
theorem dX11_poem_11 : decode cX11_poem 11 = .ok (.invokestatic 74, 3) := by decide +kernel
theorem dX11_poem_14 : decode cX11_poem 14 = .ok (.ifCond .eq 9, 3) := by decide +kernel
theorem dX11_poem_17 : decode cX11_poem 17 = .ok (.aload_n 0, 1) := by decide +kernel
theorem dX11_poem_18 : decode cX11_poem 18 = .ok (.iconst 1, 1) := by decide +kernel
theorem dX11_poem_19 : decode cX11_poem 19 = .ok (.invokevirtual 78, 3) := by decide +kernel
theorem dX11_poem_22 : decode cX11_poem 22 = .ok (.ireturn, 1) := by decide +kernel
theorem dX11_poem_23 : decode cX11_poem 23 = .ok (.aload_n 0, 1) := by decide +kernel
theorem dX11_poem_24 : decode cX11_poem 24 = .ok (.getfield 54, 3) := by decide +kernel
theorem dX11_poem_27 : decode cX11_poem 27 = .ok (.iload_n 1, 1) := by decide +kernel
theorem dX11_poem_28 : decode cX11_poem 28 = .ok (.aaload, 1) := by decide +kernel
theorem dX11_poem_29 : decode cX11_poem 29 = .ok (.invokevirtual 168, 3) := by decide +kernel
theorem dX11_poem_32 : decode cX11_poem 32 = .ok (.ifCond .eq 9, 3) := by decide +kernel
theorem dX11_poem_35 : decode cX11_poem 35 = .ok (.aload_n 0, 1) := by decide +kernel
theorem dX11_poem_36 : decode cX11_poem 36 = .ok (.iconst 2, 1) := by decide +kernel
theorem dX11_poem_37 : decode cX11_poem 37 = .ok (.invokevirtual 78, 3) := by decide +kernel
theorem dX11_poem_40 : decode cX11_poem 40 = .ok (.ireturn, 1) := by decide +kernel
theorem dX11_poem_41 : decode cX11_poem 41 = .ok (.iload_n 2, 1) := by decide +kernel
theorem dX11_poem_42 : decode cX11_poem 42 = .ok (.ifCond .ne 15, 3) := by decide +kernel
theorem dX11_poem_45 : decode cX11_poem 45 = .ok (.aload_n 0, 1) := by decide +kernel
theorem dX11_poem_46 : decode cX11_poem 46 = .ok (.getfield 54, 3) := by decide +kernel
theorem dX11_poem_49 : decode cX11_poem 49 = .ok (.iload_n 1, 1) := by decide +kernel
theorem dX11_poem_50 : decode cX11_poem 50 = .ok (.aaload, 1) := by decide +kernel
theorem dX11_poem_51 : decode cX11_poem 51 = .ok (.invokevirtual 178, 3) := by decide +kernel
theorem dX11_poem_54 : decode cX11_poem 54 = .ok (.goto 12, 3) := by decide +kernel
theorem dX11_poem_57 : decode cX11_poem 57 = .ok (.aload_n 0, 1) := by decide +kernel
theorem dX11_poem_58 : decode cX11_poem 58 = .ok (.getfield 54, 3) := by decide +kernel
theorem dX11_poem_61 : decode cX11_poem 61 = .ok (.iload_n 1, 1) := by decide +kernel
theorem dX11_poem_62 : decode cX11_poem 62 = .ok (.aaload, 1) := by decide +kernel
theorem dX11_poem_63 : decode cX11_poem 63 = .ok (.invokevirtual 181, 3) := by decide +kernel
theorem dX11_poem_66 : decode cX11_poem 66 = .ok (.ireturn, 1) := by decide +kernel
theorem dX11_heard_0 : decode cX11_heard 0 = .ok (.aload_n 0, 1) := by decide +kernel
theorem dX11_heard_1 : decode cX11_heard 1 = .ok (.iload_n 1, 1) := by decide +kernel
theorem dX11_heard_2 : decode cX11_heard 2 = .ok (.invokevirtual 165, 3) := by decide +kernel
theorem dX11_heard_5 : decode cX11_heard 5 = .ok (.ifCond .ne 12, 3) := by decide +kernel
theorem dX11_heard_8 : decode cX11_heard 8 = .ok (.iload_n 2, 1) := by decide +kernel
theorem dX11_heard_9 : decode cX11_heard 9 = .ok (.iconst 0, 1) := by decide +kernel
theorem dX11_heard_10 : decode cX11_heard 10 = .ok (.iconst 2, 1) := by decide +kernel
theorem dX11_heard_11 : decode cX11_heard 11 = .ok (.invokestatic 74, 3) := by decide +kernel
theorem dX11_heard_14 : decode cX11_heard 14 = .ok (.ifCond .eq 9, 3) := by decide +kernel
theorem dX11_heard_17 : decode cX11_heard 17 = .ok (.aload_n 0, 1) := by decide +kernel
theorem dX11_heard_18 : decode cX11_heard 18 = .ok (.iconst 1, 1) := by decide +kernel
theorem dX11_heard_19 : decode cX11_heard 19 = .ok (.invokevirtual 78, 3) := by decide +kernel
theorem dX11_heard_22 : decode cX11_heard 22 = .ok (.ireturn, 1) := by decide +kernel
theorem dX11_heard_23 : decode cX11_heard 23 = .ok (.aload_n 0, 1) := by decide +kernel
theorem dX11_heard_24 : decode cX11_heard 24 = .ok (.getfield 54, 3) := by decide +kernel
theorem dX11_heard_27 : decode cX11_heard 27 = .ok (.iload_n 1, 1) := by decide +kernel
theorem dX11_heard_28 : decode cX11_heard 28 = .ok (.aaload, 1) := by decide +kernel
theorem dX11_heard_29 : decode cX11_heard 29 = .ok (.astore_n 3, 1) := by decide +kernel
theorem dX11_heard_30 : decode cX11_heard 30 = .ok (.aload_n 3, 1) := by decide +kernel
theorem dX11_heard_31 : decode cX11_heard 31 = .ok (.invokevirtual 168, 3) := by decide +kernel
theorem dX11_heard_34 : decode cX11_heard 34 = .ok (.ifCond .ne 11, 3) := by decide +kernel
theorem dX11_heard_37 : decode cX11_heard 37 = .ok (.aload_n 3, 1) := by decide +kernel
theorem dX11_heard_38 : decode cX11_heard 38 = .ok (.getfield 184, 3) := by decide +kernel
theorem dX11_heard_41 : decode cX11_heard 41 = .ok (.iconst 2, 1) := by decide +kernel
theorem dX11_heard_42 : decode cX11_heard 42 = .ok (.if_icmp .ge 9, 3) := by decide +kernel
theorem dX11_heard_45 : decode cX11_heard 45 = .ok (.aload_n 0, 1) := by decide +kernel
theorem dX11_heard_46 : decode cX11_heard 46 = .ok (.iconst 2, 1) := by decide +kernel
theorem dX11_heard_47 : decode cX11_heard 47 = .ok (.invokevirtual 78, 3) := by decide +kernel
theorem dX11_heard_50 : decode cX11_heard 50 = .ok (.ireturn, 1) := by decide +kernel
theorem dX11_heard_51 : decode cX11_heard 51 = .ok (.aload_n 3, 1) := by decide +kernel
theorem dX11_heard_52 : decode cX11_heard 52 = .ok (.invokevirtual 187, 3) := by decide +kernel
theorem dX11_heard_55 : decode cX11_heard 55 = .ok (.istore 4, 2) := by decide +kernel
theorem dX11_heard_57 : decode cX11_heard 57 = .ok (.iload_n 2, 1) := by decide +kernel
theorem dX11_heard_58 : decode cX11_heard 58 = .ok (.ifCond .ne 6, 3) := by decide +kernel
theorem dX11_heard_61 : decode cX11_heard 61 = .ok (.iload 4, 2) := by decide +kernel
theorem dX11_heard_63 : decode cX11_heard 63 = .ok (.ireturn, 1) := by decide +kernel
theorem dX11_heard_64 : decode cX11_heard 64 = .ok (.iload_n 2, 1) := by decide +kernel
theorem dX11_heard_65 : decode cX11_heard 65 = .ok (.iconst 1, 1) := by decide +kernel
theorem dX11_heard_66 : decode cX11_heard 66 = .ok (.if_icmp .ne 12, 3) := by decide +kernel
theorem dX11_heard_69 : decode cX11_heard 69 = .ok (.aload_n 3, 1) := by decide +kernel
theorem dX11_heard_70 : decode cX11_heard 70 = .ok (.iload 4, 2) := by decide +kernel
theorem dX11_heard_72 : decode cX11_heard 72 = .ok (.invokevirtual 190, 3) := by decide +kernel
theorem dX11_heard_75 : decode cX11_heard 75 = .ok (.goto 9, 3) := by decide +kernel
theorem dX11_heard_78 : decode cX11_heard 78 = .ok (.aload_n 3, 1) := by decide +kernel
theorem dX11_heard_79 : decode cX11_heard 79 = .ok (.iload 4, 2) := by decide +kernel
theorem dX11_heard_81 : decode cX11_heard 81 = .ok (.invokevirtual 193, 3) := by decide +kernel
theorem dX11_heard_84 : decode cX11_heard 84 = .ok (.ireturn, 1) := by decide +kernel
theorem dX11_often_0 : decode cX11_often 0 = .ok (.aload_n 0, 1) := by decide +kernel
theorem dX11_often_1 : decode cX11_often 1 = .ok (.iload_n 1, 1) := by decide +kernel
theorem dX11_often_2 : decode cX11_often 2 = .ok (.invokevirtual 92, 3) := by decide +kernel
theorem dX11_often_5 : decode cX11_often 5 = .ok (.ifCond .ne 23, 3) := by decide +kernel
theorem dX11_often_8 : decode cX11_often 8 = .ok (.iload_n 2, 1) := by decide +kernel
theorem dX11_often_9 : decode cX11_often 9 = .ok (.iconst 0, 1) := by decide +kernel
theorem dX11_often_10 : decode cX11_often 10 = .ok (.bipush 39, 2) := by decide +kernel
theorem dX11_often_12 : decode cX11_often 12 = .ok (.invokestatic 74, 3) := by decide +kernel
theorem dX11_often_15 : decode cX11_often 15 = .ok (.ifCond .ne 13, 3) := by decide +kernel
theorem dX11_often_18 : decode cX11_often 18 = .ok (.iload_n 3, 1) := by decide +kernel
theorem dX11_often_19 : decode cX11_often 19 = .ok (.iconst 2, 1) := by decide +kernel
theorem dX11_often_20 : decode cX11_often 20 = .ok (.ldc 196, 2) := by decide +kernel
theorem dX11_often_22 : decode cX11_often 22 = .ok (.invokestatic 74, 3) := by decide +kernel
theorem dX11_often_25 : decode cX11_often 25 = .ok (.ifCond .eq 9, 3) := by decide +kernel
theorem dX11_often_28 : decode cX11_often 28 = .ok (.aload_n 0, 1) := by decide +kernel
theorem dX11_often_29 : decode cX11_often 29 = .ok (.iconst 1, 1) := by decide +kernel
theorem dX11_often_30 : decode cX11_often 30 = .ok (.invokevirtual 78, 3) := by decide +kernel
theorem dX11_often_33 : decode cX11_often 33 = .ok (.ireturn, 1) := by decide +kernel
theorem dX11_often_34 : decode cX11_often 34 = .ok (.bipush 10, 2) := by decide +kernel
theorem dX11_often_36 : decode cX11_often 36 = .ok (.aload_n 0, 1) := by decide +kernel
theorem dX11_often_37 : decode cX11_often 37 = .ok (.getfield 42, 3) := by decide +kernel
theorem dX11_often_40 : decode cX11_often 40 = .ok (.iload_n 1, 1) := by decide +kernel
theorem dX11_often_41 : decode cX11_often 41 = .ok (.iload_n 2, 1) := by decide +kernel
theorem dX11_often_42 : decode cX11_often 42 = .ok (.invokevirtual 103, 3) := by decide +kernel
theorem dX11_often_45 : decode cX11_often 45 = .ok (.isub, 1) := by decide +kernel
theorem dX11_often_46 : decode cX11_often 46 = .ok (.istore 4, 2) := by decide +kernel
theorem dX11_often_48 : decode cX11_often 48 = .ok (.lconst 1, 1) := by decide +kernel
theorem dX11_often_49 : decode cX11_often 49 = .ok (.lstore 5, 2) := by decide +kernel
theorem dX11_often_51 : decode cX11_often 51 = .ok (.lconst 1, 1) := by decide +kernel
theorem dX11_often_52 : decode cX11_often 52 = .ok (.lstore 7, 2) := by decide +kernel
theorem dX11_often_54 : decode cX11_often 54 = .ok (.iconst 1, 1) := by decide +kernel
theorem dX11_often_55 : decode cX11_often 55 = .ok (.istore 9, 2) := by decide +kernel
theorem dX11_often_57 : decode cX11_often 57 = .ok (.iload 9, 2) := by decide +kernel
theorem dX11_often_59 : decode cX11_often 59 = .ok (.bipush 12, 2) := by decide +kernel
theorem dX11_often_61 : decode cX11_often 61 = .ok (.if_icmp .gt 39, 3) := by decide +kernel
theorem dX11_often_64 : decode cX11_often 64 = .ok (.lload 5, 2) := by decide +kernel
theorem dX11_often_66 : decode cX11_often 66 = .ok (.iload 4, 2) := by decide +kernel
theorem dX11_often_68 : decode cX11_often 68 = .ok (.i2l, 1) := by decide +kernel
theorem dX11_often_69 : decode cX11_often 69 = .ok (.lmul, 1) := by decide +kernel
theorem dX11_often_70 : decode cX11_often 70 = .ok (.lstore 5, 2) := by decide +kernel
theorem dX11_often_72 : decode cX11_often 72 = .ok (.lload 7, 2) := by decide +kernel
theorem dX11_often_74 : decode cX11_often 74 = .ok (.ldc2_w 197, 3) := by decide +kernel
theorem dX11_often_77 : decode cX11_often 77 = .ok (.lmul, 1) := by decide +kernel
theorem dX11_often_78 : decode cX11_often 78 = .ok (.lstore 7, 2) := by decide +kernel
theorem dX11_often_80 : decode cX11_often 80 = .ok (.lload 5, 2) := by decide +kernel
theorem dX11_often_82 : decode cX11_often 82 = .ok (.iload_n 3, 1) := by decide +kernel
theorem dX11_often_83 : decode cX11_often 83 = .ok (.i2l, 1) := by decide +kernel
theorem dX11_often_84 : decode cX11_often 84 = .ok (.lmul, 1) := by decide +kernel
theorem dX11_often_85 : decode cX11_often 85 = .ok (.lload 7, 2) := by decide +kernel
theorem dX11_often_87 : decode cX11_often 87 = .ok (.lcmp, 1) := by decide +kernel
theorem dX11_often_88 : decode cX11_often 88 = .ok (.ifCond .gt 6, 3) := by decide +kernel
theorem dX11_often_91 : decode cX11_often 91 = .ok (.iload 9, 2) := by decide +kernel
theorem dX11_often_93 : decode cX11_often 93 = .ok (.ireturn, 1) := by decide +kernel
theorem dX11_often_94 : decode cX11_often 94 = .ok (.iinc 9 1, 3) := by decide +kernel
theorem dX11_often_97 : decode cX11_often 97 = .ok (.goto (-40), 3) := by decide +kernel
theorem dX11_often_100 : decode cX11_often 100 = .ok (.aload_n 0, 1) := by decide +kernel
theorem dX11_often_101 : decode cX11_often 101 = .ok (.iconst 2, 1) := by decide +kernel
theorem dX11_often_102 : decode cX11_often 102 = .ok (.invokevirtual 78, 3) := by decide +kernel
theorem dX11_often_105 : decode cX11_often 105 = .ok (.ireturn, 1) := by decide +kernel
theorem dX11_over_0 : decode cX11_over 0 = .ok (.iload_n 1, 1) := by decide +kernel
theorem dX11_over_1 : decode cX11_over 1 = .ok (.iconst 0, 1) := by decide +kernel
theorem dX11_over_2 : decode cX11_over 2 = .ok (.sipush 200, 3) := by decide +kernel
theorem dX11_over_5 : decode cX11_over 5 = .ok (.invokestatic 74, 3) := by decide +kernel
theorem dX11_over_8 : decode cX11_over 8 = .ok (.ifCond .eq 9, 3) := by decide +kernel
theorem dX11_over_11 : decode cX11_over 11 = .ok (.aload_n 0, 1) := by decide +kernel
theorem dX11_over_12 : decode cX11_over 12 = .ok (.iconst 1, 1) := by decide +kernel
theorem dX11_over_13 : decode cX11_over 13 = .ok (.invokevirtual 78, 3) := by decide +kernel
theorem dX11_over_16 : decode cX11_over 16 = .ok (.ireturn, 1) := by decide +kernel
theorem dX11_over_17 : decode cX11_over 17 = .ok (.aload_n 0, 1) := by decide +kernel
theorem dX11_over_18 : decode cX11_over 18 = .ok (.iload_n 1, 1) := by decide +kernel
theorem dX11_over_19 : decode cX11_over 19 = .ok (.iconst (-1), 1) := by decide +kernel
theorem dX11_over_20 : decode cX11_over 20 = .ok (.invokevirtual 199, 3) := by decide +kernel
theorem dX11_over_23 : decode cX11_over 23 = .ok (.istore_n 2, 1) := by decide +kernel
theorem dX11_over_24 : decode cX11_over 24 = .ok (.iconst (-1), 1) := by decide +kernel
theorem dX11_over_25 : decode cX11_over 25 = .ok (.istore_n 3, 1) := by decide +kernel
theorem dX11_over_26 : decode cX11_over 26 = .ok (.iconst 0, 1) := by decide +kernel
theorem dX11_over_27 : decode cX11_over 27 = .ok (.istore 4, 2) := by decide +kernel
theorem dX11_over_29 : decode cX11_over 29 = .ok (.iload 4, 2) := by decide +kernel
theorem dX11_over_31 : decode cX11_over 31 = .ok (.aload_n 0, 1) := by decide +kernel
theorem dX11_over_32 : decode cX11_over 32 = .ok (.getfield 42, 3) := by decide +kernel
theorem dX11_over_35 : decode cX11_over 35 = .ok (.getfield 85, 3) := by decide +kernel
theorem dX11_over_38 : decode cX11_over 38 = .ok (.if_icmp .ge 30, 3) := by decide +kernel
theorem dX11_over_41 : decode cX11_over 41 = .ok (.aload_n 0, 1) := by decide +kernel
theorem dX11_over_42 : decode cX11_over 42 = .ok (.iload_n 1, 1) := by decide +kernel
theorem dX11_over_43 : decode cX11_over 43 = .ok (.iload 4, 2) := by decide +kernel
theorem dX11_over_45 : decode cX11_over 45 = .ok (.invokevirtual 199, 3) := by decide +kernel
theorem dX11_over_48 : decode cX11_over 48 = .ok (.istore 5, 2) := by decide +kernel
theorem dX11_over_50 : decode cX11_over 50 = .ok (.iload 5, 2) := by decide +kernel
theorem dX11_over_52 : decode cX11_over 52 = .ok (.iload_n 2, 1) := by decide +kernel
theorem dX11_over_53 : decode cX11_over 53 = .ok (.if_icmp .le 9, 3) := by decide +kernel
theorem dX11_over_56 : decode cX11_over 56 = .ok (.iload 5, 2) := by decide +kernel
theorem dX11_over_58 : decode cX11_over 58 = .ok (.istore_n 2, 1) := by decide +kernel
theorem dX11_over_59 : decode cX11_over 59 = .ok (.iload 4, 2) := by decide +kernel
theorem dX11_over_61 : decode cX11_over 61 = .ok (.istore_n 3, 1) := by decide +kernel
theorem dX11_over_62 : decode cX11_over 62 = .ok (.iinc 4 1, 3) := by decide +kernel
theorem dX11_over_65 : decode cX11_over 65 = .ok (.goto (-36), 3) := by decide +kernel
theorem dX11_over_68 : decode cX11_over 68 = .ok (.iload_n 3, 1) := by decide +kernel
theorem dX11_over_69 : decode cX11_over 69 = .ok (.ifCond .ge 11, 3) := by decide +kernel
theorem dX11_over_72 : decode cX11_over 72 = .ok (.aload_n 0, 1) := by decide +kernel
theorem dX11_over_73 : decode cX11_over 73 = .ok (.iconst 2, 1) := by decide +kernel
theorem dX11_over_74 : decode cX11_over 74 = .ok (.invokevirtual 78, 3) := by decide +kernel
theorem dX11_over_77 : decode cX11_over 77 = .ok (.goto 4, 3) := by decide +kernel
theorem dX11_over_80 : decode cX11_over 80 = .ok (.iload_n 3, 1) := by decide +kernel
theorem dX11_over_81 : decode cX11_over 81 = .ok (.ireturn, 1) := by decide +kernel
theorem dX11_seed_0 : decode cX11_seed 0 = .ok (.aload_n 0, 1) := by decide +kernel
theorem dX11_seed_1 : decode cX11_seed 1 = .ok (.getfield 42, 3) := by decide +kernel
theorem dX11_seed_4 : decode cX11_seed 4 = .ok (.getfield 202, 3) := by decide +kernel
theorem dX11_seed_7 : decode cX11_seed 7 = .ok (.istore_n 2, 1) := by decide +kernel
theorem dX11_seed_8 : decode cX11_seed 8 = .ok (.aload_n 0, 1) := by decide +kernel
theorem dX11_seed_9 : decode cX11_seed 9 = .ok (.getfield 42, 3) := by decide +kernel
theorem dX11_seed_12 : decode cX11_seed 12 = .ok (.iload_n 1, 1) := by decide +kernel
theorem dX11_seed_13 : decode cX11_seed 13 = .ok (.putfield 202, 3) := by decide +kernel
theorem dX11_seed_16 : decode cX11_seed 16 = .ok (.iload_n 2, 1) := by decide +kernel
theorem dX11_seed_17 : decode cX11_seed 17 = .ok (.ireturn, 1) := by decide +kernel
theorem dX11_voice_0 : decode cX11_voice 0 = .ok (.aload_n 0, 1) := by decide +kernel
theorem dX11_voice_1 : decode cX11_voice 1 = .ok (.iload_n 1, 1) := by decide +kernel
theorem dX11_voice_2 : decode cX11_voice 2 = .ok (.invokevirtual 92, 3) := by decide +kernel
theorem dX11_voice_5 : decode cX11_voice 5 = .ok (.ifCond .ne 12, 3) := by decide +kernel
theorem dX11_voice_8 : decode cX11_voice 8 = .ok (.iload_n 2, 1) := by decide +kernel
theorem dX11_voice_9 : decode cX11_voice 9 = .ok (.iconst 0, 1) := by decide +kernel
theorem dX11_voice_10 : decode cX11_voice 10 = .ok (.iconst 3, 1) := by decide +kernel
theorem dX11_voice_11 : decode cX11_voice 11 = .ok (.invokestatic 74, 3) := by decide +kernel
theorem dX11_voice_14 : decode cX11_voice 14 = .ok (.ifCond .eq 9, 3) := by decide +kernel
theorem dX11_voice_17 : decode cX11_voice 17 = .ok (.aload_n 0, 1) := by decide +kernel
theorem dX11_voice_18 : decode cX11_voice 18 = .ok (.iconst 1, 1) := by decide +kernel
theorem dX11_voice_19 : decode cX11_voice 19 = .ok (.invokevirtual 78, 3) := by decide +kernel
theorem dX11_voice_22 : decode cX11_voice 22 = .ok (.ireturn, 1) := by decide +kernel
theorem dX11_voice_23 : decode cX11_voice 23 = .ok (.aload_n 0, 1) := by decide +kernel
theorem dX11_voice_24 : decode cX11_voice 24 = .ok (.getfield 62, 3) := by decide +kernel
theorem dX11_voice_27 : decode cX11_voice 27 = .ok (.iload_n 1, 1) := by decide +kernel
theorem dX11_voice_28 : decode cX11_voice 28 = .ok (.aload_n 0, 1) := by decide +kernel
theorem dX11_voice_29 : decode cX11_voice 29 = .ok (.getfield 42, 3) := by decide +kernel
theorem dX11_voice_32 : decode cX11_voice 32 = .ok (.getfield 99, 3) := by decide +kernel
theorem dX11_voice_35 : decode cX11_voice 35 = .ok (.iconst 1, 1) := by decide +kernel
theorem dX11_voice_36 : decode cX11_voice 36 = .ok (.aaload, 1) := by decide +kernel
theorem dX11_voice_37 : decode cX11_voice 37 = .ok (.iload_n 1, 1) := by decide +kernel
theorem dX11_voice_38 : decode cX11_voice 38 = .ok (.iaload, 1) := by decide +kernel
theorem dX11_voice_39 : decode cX11_voice 39 = .ok (.invokevirtual 205, 3) := by decide +kernel
theorem dX11_voice_42 : decode cX11_voice 42 = .ok (.aload_n 0, 1) := by decide +kernel
theorem dX11_voice_43 : decode cX11_voice 43 = .ok (.getfield 42, 3) := by decide +kernel
theorem dX11_voice_46 : decode cX11_voice 46 = .ok (.iload_n 1, 1) := by decide +kernel
theorem dX11_voice_47 : decode cX11_voice 47 = .ok (.invokevirtual 209, 3) := by decide +kernel
theorem dX11_voice_50 : decode cX11_voice 50 = .ok (.astore 4, 2) := by decide +kernel
theorem dX11_voice_52 : decode cX11_voice 52 = .ok (.iload_n 2, 1) := by decide +kernel
theorem dX11_voice_53 : decode cX11_voice 53 = .ok (.tableswitch 60 0 2 #[27, 38, 49], 27) := by decide +kernel
theorem dX11_voice_80 : decode cX11_voice 80 = .ok (.aload 4, 2) := by decide +kernel
theorem dX11_voice_82 : decode cX11_voice 82 = .ok (.aload_n 0, 1) := by decide +kernel
theorem dX11_voice_83 : decode cX11_voice 83 = .ok (.getfield 62, 3) := by decide +kernel
theorem dX11_voice_86 : decode cX11_voice 86 = .ok (.iload_n 3, 1) := by decide +kernel
theorem dX11_voice_87 : decode cX11_voice 87 = .ok (.invokevirtual 213, 3) := by decide +kernel
theorem dX11_voice_90 : decode cX11_voice 90 = .ok (.ireturn, 1) := by decide +kernel
theorem dX11_voice_91 : decode cX11_voice 91 = .ok (.aload 4, 2) := by decide +kernel
theorem dX11_voice_93 : decode cX11_voice 93 = .ok (.aload_n 0, 1) := by decide +kernel
theorem dX11_voice_94 : decode cX11_voice 94 = .ok (.getfield 62, 3) := by decide +kernel
theorem dX11_voice_97 : decode cX11_voice 97 = .ok (.iload_n 3, 1) := by decide +kernel
theorem dX11_voice_98 : decode cX11_voice 98 = .ok (.invokevirtual 217, 3) := by decide +kernel
theorem dX11_voice_101 : decode cX11_voice 101 = .ok (.ireturn, 1) := by decide +kernel
theorem dX11_voice_102 : decode cX11_voice 102 = .ok (.aload 4, 2) := by decide +kernel
theorem dX11_voice_104 : decode cX11_voice 104 = .ok (.aload_n 0, 1) := by decide +kernel
theorem dX11_voice_105 : decode cX11_voice 105 = .ok (.getfield 62, 3) := by decide +kernel
theorem dX11_voice_108 : decode cX11_voice 108 = .ok (.iload_n 3, 1) := by decide +kernel
theorem dX11_voice_109 : decode cX11_voice 109 = .ok (.invokevirtual 220, 3) := by decide +kernel
theorem dX11_voice_112 : decode cX11_voice 112 = .ok (.ireturn, 1) := by decide +kernel
theorem dX11_voice_113 : decode cX11_voice 113 = .ok (.aload 4, 2) := by decide +kernel
theorem dX11_voice_115 : decode cX11_voice 115 = .ok (.aload_n 0, 1) := by decide +kernel
theorem dX11_voice_116 : decode cX11_voice 116 = .ok (.getfield 62, 3) := by decide +kernel
theorem dX11_voice_119 : decode cX11_voice 119 = .ok (.iload_n 3, 1) := by decide +kernel
theorem dX11_voice_120 : decode cX11_voice 120 = .ok (.invokevirtual 223, 3) := by decide +kernel
theorem dX11_voice_123 : decode cX11_voice 123 = .ok (.ireturn, 1) := by decide +kernel
theorem dX11_trace_0 : decode cX11_trace 0 = .ok (.iload_n 1, 1) := by decide +kernel
theorem dX11_trace_1 : decode cX11_trace 1 = .ok (.iconst 0, 1) := by decide +kernel
theorem dX11_trace_2 : decode cX11_trace 2 = .ok (.aload_n 0, 1) := by decide +kernel
theorem dX11_trace_3 : decode cX11_trace 3 = .ok (.getfield 62, 3) := by decide +kernel
theorem dX11_trace_6 : decode cX11_trace 6 = .ok (.getfield 226, 3) := by decide +kernel
theorem dX11_trace_9 : decode cX11_trace 9 = .ok (.iconst 1, 1) := by decide +kernel
theorem dX11_trace_10 : decode cX11_trace 10 = .ok (.isub, 1) := by decide +kernel
theorem dX11_trace_11 : decode cX11_trace 11 = .ok (.invokestatic 74, 3) := by decide +kernel
theorem dX11_trace_14 : decode cX11_trace 14 = .ok (.ifCond .eq 9, 3) := by decide +kernel
theorem dX11_trace_17 : decode cX11_trace 17 = .ok (.aload_n 0, 1) := by decide +kernel
theorem dX11_trace_18 : decode cX11_trace 18 = .ok (.iconst 2, 1) := by decide +kernel
theorem dX11_trace_19 : decode cX11_trace 19 = .ok (.invokevirtual 78, 3) := by decide +kernel
theorem dX11_trace_22 : decode cX11_trace 22 = .ok (.ireturn, 1) := by decide +kernel
theorem dX11_trace_23 : decode cX11_trace 23 = .ok (.aload_n 0, 1) := by decide +kernel
theorem dX11_trace_24 : decode cX11_trace 24 = .ok (.getfield 62, 3) := by decide +kernel
theorem dX11_trace_27 : decode cX11_trace 27 = .ok (.getfield 229, 3) := by decide +kernel
theorem dX11_trace_30 : decode cX11_trace 30 = .ok (.iload_n 1, 1) := by decide +kernel
theorem dX11_trace_31 : decode cX11_trace 31 = .ok (.iaload, 1) := by decide +kernel
theorem dX11_trace_32 : decode cX11_trace 32 = .ok (.ireturn, 1) := by decide +kernel
theorem dX11_sheet_0 : decode cX11_sheet 0 = .ok (.iload_n 2, 1) := by decide +kernel
theorem dX11_sheet_1 : decode cX11_sheet 1 = .ok (.ifCond .eq 21, 3) := by decide +kernel
theorem dX11_sheet_4 : decode cX11_sheet 4 = .ok (.iload_n 2, 1) := by decide +kernel
theorem dX11_sheet_5 : decode cX11_sheet 5 = .ok (.bipush 8, 2) := by decide +kernel
theorem dX11_sheet_7 : decode cX11_sheet 7 = .ok (.if_icmp .eq 15, 3) := by decide +kernel
theorem dX11_sheet_10 : decode cX11_sheet 10 = .ok (.iload_n 2, 1) := by decide +kernel
theorem dX11_sheet_11 : decode cX11_sheet 11 = .ok (.bipush 16, 2) := by decide +kernel
theorem dX11_sheet_13 : decode cX11_sheet 13 = .ok (.if_icmp .eq 9, 3) := by decide +kernel
theorem dX11_sheet_16 : decode cX11_sheet 16 = .ok (.iload_n 2, 1) := by decide +kernel
theorem dX11_sheet_17 : decode cX11_sheet 17 = .ok (.bipush 32, 2) := by decide +kernel
theorem dX11_sheet_19 : decode cX11_sheet 19 = .ok (.if_icmp .ne 7, 3) := by decide +kernel
theorem dX11_sheet_22 : decode cX11_sheet 22 = .ok (.iconst 1, 1) := by decide +kernel
theorem dX11_sheet_23 : decode cX11_sheet 23 = .ok (.goto 4, 3) := by decide +kernel
theorem dX11_sheet_26 : decode cX11_sheet 26 = .ok (.iconst 0, 1) := by decide +kernel
theorem dX11_sheet_27 : decode cX11_sheet 27 = .ok (.istore 4, 2) := by decide +kernel
theorem dX11_sheet_29 : decode cX11_sheet 29 = .ok (.aload_n 0, 1) := by decide +kernel
theorem dX11_sheet_30 : decode cX11_sheet 30 = .ok (.iload_n 1, 1) := by decide +kernel
theorem dX11_sheet_31 : decode cX11_sheet 31 = .ok (.invokevirtual 165, 3) := by decide +kernel
theorem dX11_sheet_34 : decode cX11_sheet 34 = .ok (.ifCond .ne 8, 3) := by decide +kernel
theorem dX11_sheet_37 : decode cX11_sheet 37 = .ok (.iload 4, 2) := by decide +kernel
theorem dX11_sheet_39 : decode cX11_sheet 39 = .ok (.ifCond .ne 9, 3) := by decide +kernel
theorem dX11_sheet_42 : decode cX11_sheet 42 = .ok (.aload_n 0, 1) := by decide +kernel
theorem dX11_sheet_43 : decode cX11_sheet 43 = .ok (.iconst 1, 1) := by decide +kernel
theorem dX11_sheet_44 : decode cX11_sheet 44 = .ok (.invokevirtual 78, 3) := by decide +kernel
theorem dX11_sheet_47 : decode cX11_sheet 47 = .ok (.ireturn, 1) := by decide +kernel
theorem dX11_sheet_48 : decode cX11_sheet 48 = .ok (.iload_n 2, 1) := by decide +kernel
theorem dX11_sheet_49 : decode cX11_sheet 49 = .ok (.ifCond .ne 16, 3) := by decide +kernel
theorem dX11_sheet_52 : decode cX11_sheet 52 = .ok (.aload_n 0, 1) := by decide +kernel
theorem dX11_sheet_53 : decode cX11_sheet 53 = .ok (.getfield 54, 3) := by decide +kernel
theorem dX11_sheet_56 : decode cX11_sheet 56 = .ok (.iload_n 1, 1) := by decide +kernel
theorem dX11_sheet_57 : decode cX11_sheet 57 = .ok (.aaload, 1) := by decide +kernel
theorem dX11_sheet_58 : decode cX11_sheet 58 = .ok (.iconst 0, 1) := by decide +kernel
theorem dX11_sheet_59 : decode cX11_sheet 59 = .ok (.iconst 0, 1) := by decide +kernel
theorem dX11_sheet_60 : decode cX11_sheet 60 = .ok (.invokevirtual 232, 3) := by decide +kernel
theorem dX11_sheet_63 : decode cX11_sheet 63 = .ok (.iconst 1, 1) := by decide +kernel
theorem dX11_sheet_64 : decode cX11_sheet 64 = .ok (.ireturn, 1) := by decide +kernel
theorem dX11_sheet_65 : decode cX11_sheet 65 = .ok (.iload_n 3, 1) := by decide +kernel
theorem dX11_sheet_66 : decode cX11_sheet 66 = .ok (.ifCond .ge 9, 3) := by decide +kernel
theorem dX11_sheet_69 : decode cX11_sheet 69 = .ok (.aload_n 0, 1) := by decide +kernel
theorem dX11_sheet_70 : decode cX11_sheet 70 = .ok (.iconst 3, 1) := by decide +kernel
theorem dX11_sheet_71 : decode cX11_sheet 71 = .ok (.invokevirtual 78, 3) := by decide +kernel
theorem dX11_sheet_74 : decode cX11_sheet 74 = .ok (.ireturn, 1) := by decide +kernel
theorem dX11_sheet_75 : decode cX11_sheet 75 = .ok (.iload_n 3, 1) := by decide +kernel
theorem dX11_sheet_76 : decode cX11_sheet 76 = .ok (.bipush 40, 2) := by decide +kernel
theorem dX11_sheet_78 : decode cX11_sheet 78 = .ok (.if_icmp .le 9, 3) := by decide +kernel
theorem dX11_sheet_81 : decode cX11_sheet 81 = .ok (.aload_n 0, 1) := by decide +kernel
theorem dX11_sheet_82 : decode cX11_sheet 82 = .ok (.iconst 1, 1) := by decide +kernel
theorem dX11_sheet_83 : decode cX11_sheet 83 = .ok (.invokevirtual 78, 3) := by decide +kernel
theorem dX11_sheet_86 : decode cX11_sheet 86 = .ok (.ireturn, 1) := by decide +kernel
theorem dX11_sheet_87 : decode cX11_sheet 87 = .ok (.aload_n 0, 1) := by decide +kernel
theorem dX11_sheet_88 : decode cX11_sheet 88 = .ok (.getfield 54, 3) := by decide +kernel
theorem dX11_sheet_91 : decode cX11_sheet 91 = .ok (.iload_n 1, 1) := by decide +kernel
theorem dX11_sheet_92 : decode cX11_sheet 92 = .ok (.aaload, 1) := by decide +kernel
theorem dX11_sheet_93 : decode cX11_sheet 93 = .ok (.iload_n 2, 1) := by decide +kernel
theorem dX11_sheet_94 : decode cX11_sheet 94 = .ok (.iload_n 3, 1) := by decide +kernel
theorem dX11_sheet_95 : decode cX11_sheet 95 = .ok (.invokevirtual 232, 3) := by decide +kernel
theorem dX11_sheet_98 : decode cX11_sheet 98 = .ok (.iconst 1, 1) := by decide +kernel
theorem dX11_sheet_99 : decode cX11_sheet 99 = .ok (.ireturn, 1) := by decide +kernel
theorem dX11_put_0 : decode cX11_put 0 = .ok (.aload_n 0, 1) := by decide +kernel
theorem dX11_put_1 : decode cX11_put 1 = .ok (.iload_n 1, 1) := by decide +kernel
theorem dX11_put_2 : decode cX11_put 2 = .ok (.invokevirtual 165, 3) := by decide +kernel
theorem dX11_put_5 : decode cX11_put 5 = .ok (.ifCond .eq 9, 3) := by decide +kernel
theorem dX11_put_8 : decode cX11_put 8 = .ok (.aload_n 0, 1) := by decide +kernel
theorem dX11_put_9 : decode cX11_put 9 = .ok (.iconst 1, 1) := by decide +kernel
theorem dX11_put_10 : decode cX11_put 10 = .ok (.invokevirtual 78, 3) := by decide +kernel
theorem dX11_put_13 : decode cX11_put 13 = .ok (.ireturn, 1) := by decide +kernel
theorem dX11_put_14 : decode cX11_put 14 = .ok (.aload_n 0, 1) := by decide +kernel
theorem dX11_put_15 : decode cX11_put 15 = .ok (.getfield 54, 3) := by decide +kernel
theorem dX11_put_18 : decode cX11_put 18 = .ok (.iload_n 1, 1) := by decide +kernel
theorem dX11_put_19 : decode cX11_put 19 = .ok (.aaload, 1) := by decide +kernel
theorem dX11_put_20 : decode cX11_put 20 = .ok (.astore 4, 2) := by decide +kernel
theorem dX11_put_22 : decode cX11_put 22 = .ok (.aload 4, 2) := by decide +kernel
theorem dX11_put_24 : decode cX11_put 24 = .ok (.invokevirtual 168, 3) := by decide +kernel
theorem dX11_put_27 : decode cX11_put 27 = .ok (.ifCond .eq 9, 3) := by decide +kernel
theorem dX11_put_30 : decode cX11_put 30 = .ok (.aload_n 0, 1) := by decide +kernel
theorem dX11_put_31 : decode cX11_put 31 = .ok (.iconst 2, 1) := by decide +kernel
theorem dX11_put_32 : decode cX11_put 32 = .ok (.invokevirtual 78, 3) := by decide +kernel
theorem dX11_put_35 : decode cX11_put 35 = .ok (.ireturn, 1) := by decide +kernel
theorem dX11_put_36 : decode cX11_put 36 = .ok (.iload_n 2, 1) := by decide +kernel
theorem dX11_put_37 : decode cX11_put 37 = .ok (.iconst 0, 1) := by decide +kernel
theorem dX11_put_38 : decode cX11_put 38 = .ok (.aload 4, 2) := by decide +kernel
theorem dX11_put_40 : decode cX11_put 40 = .ok (.getfield 184, 3) := by decide +kernel
theorem dX11_put_43 : decode cX11_put 43 = .ok (.iconst 1, 1) := by decide +kernel
theorem dX11_put_44 : decode cX11_put 44 = .ok (.isub, 1) := by decide +kernel
theorem dX11_put_45 : decode cX11_put 45 = .ok (.invokestatic 74, 3) := by decide +kernel
theorem dX11_put_48 : decode cX11_put 48 = .ok (.ifCond .eq 9, 3) := by decide +kernel
theorem dX11_put_51 : decode cX11_put 51 = .ok (.aload_n 0, 1) := by decide +kernel
theorem dX11_put_52 : decode cX11_put 52 = .ok (.iconst 1, 1) := by decide +kernel
theorem dX11_put_53 : decode cX11_put 53 = .ok (.invokevirtual 78, 3) := by decide +kernel
theorem dX11_put_56 : decode cX11_put 56 = .ok (.ireturn, 1) := by decide +kernel
theorem dX11_put_57 : decode cX11_put 57 = .ok (.aload 4, 2) := by decide +kernel
theorem dX11_put_59 : decode cX11_put 59 = .ok (.iload_n 2, 1) := by decide +kernel
theorem dX11_put_60 : decode cX11_put 60 = .ok (.iload_n 3, 1) := by decide +kernel
theorem dX11_put_61 : decode cX11_put 61 = .ok (.invokevirtual 235, 3) := by decide +kernel
theorem dX11_put_64 : decode cX11_put 64 = .ok (.iconst 1, 1) := by decide +kernel
theorem dX11_put_65 : decode cX11_put 65 = .ok (.ireturn, 1) := by decide +kernel
theorem dX11_move_0 : decode cX11_move 0 = .ok (.aload_n 0, 1) := by decide +kernel
theorem dX11_move_1 : decode cX11_move 1 = .ok (.iload_n 1, 1) := by decide +kernel
theorem dX11_move_2 : decode cX11_move 2 = .ok (.invokevirtual 165, 3) := by decide +kernel
theorem dX11_move_5 : decode cX11_move 5 = .ok (.ifCond .ne 11, 3) := by decide +kernel
theorem dX11_move_8 : decode cX11_move 8 = .ok (.aload_n 0, 1) := by decide +kernel
theorem dX11_move_9 : decode cX11_move 9 = .ok (.iload_n 3, 1) := by decide +kernel
theorem dX11_move_10 : decode cX11_move 10 = .ok (.invokevirtual 165, 3) := by decide +kernel
theorem dX11_move_13 : decode cX11_move 13 = .ok (.ifCond .eq 9, 3) := by decide +kernel
theorem dX11_move_16 : decode cX11_move 16 = .ok (.aload_n 0, 1) := by decide +kernel
theorem dX11_move_17 : decode cX11_move 17 = .ok (.iconst 1, 1) := by decide +kernel
theorem dX11_move_18 : decode cX11_move 18 = .ok (.invokevirtual 78, 3) := by decide +kernel
theorem dX11_move_21 : decode cX11_move 21 = .ok (.ireturn, 1) := by decide +kernel
theorem dX11_move_22 : decode cX11_move 22 = .ok (.aload_n 0, 1) := by decide +kernel
theorem dX11_move_23 : decode cX11_move 23 = .ok (.getfield 54, 3) := by decide +kernel
theorem dX11_move_26 : decode cX11_move 26 = .ok (.iload_n 1, 1) := by decide +kernel
theorem dX11_move_27 : decode cX11_move 27 = .ok (.aaload, 1) := by decide +kernel
theorem dX11_move_28 : decode cX11_move 28 = .ok (.astore 6, 2) := by decide +kernel
theorem dX11_move_30 : decode cX11_move 30 = .ok (.aload_n 0, 1) := by decide +kernel
theorem dX11_move_31 : decode cX11_move 31 = .ok (.getfield 54, 3) := by decide +kernel
theorem dX11_move_34 : decode cX11_move 34 = .ok (.iload_n 3, 1) := by decide +kernel
theorem dX11_move_35 : decode cX11_move 35 = .ok (.aaload, 1) := by decide +kernel
theorem dX11_move_36 : decode cX11_move 36 = .ok (.astore 7, 2) := by decide +kernel
theorem dX11_move_38 : decode cX11_move 38 = .ok (.aload 6, 2) := by decide +kernel
theorem dX11_move_40 : decode cX11_move 40 = .ok (.invokevirtual 168, 3) := by decide +kernel
theorem dX11_move_43 : decode cX11_move 43 = .ok (.ifCond .ne 11, 3) := by decide +kernel
theorem dX11_move_46 : decode cX11_move 46 = .ok (.aload 7, 2) := by decide +kernel
theorem dX11_move_48 : decode cX11_move 48 = .ok (.invokevirtual 168, 3) := by decide +kernel
theorem dX11_move_51 : decode cX11_move 51 = .ok (.ifCond .eq 9, 3) := by decide +kernel
theorem dX11_move_54 : decode cX11_move 54 = .ok (.aload_n 0, 1) := by decide +kernel
theorem dX11_move_55 : decode cX11_move 55 = .ok (.iconst 2, 1) := by decide +kernel
theorem dX11_move_56 : decode cX11_move 56 = .ok (.invokevirtual 78, 3) := by decide +kernel
theorem dX11_move_59 : decode cX11_move 59 = .ok (.ireturn, 1) := by decide +kernel
theorem dX11_move_60 : decode cX11_move 60 = .ok (.aload 6, 2) := by decide +kernel
theorem dX11_move_62 : decode cX11_move 62 = .ok (.getfield 238, 3) := by decide +kernel
theorem dX11_move_65 : decode cX11_move 65 = .ok (.aload 7, 2) := by decide +kernel
theorem dX11_move_67 : decode cX11_move 67 = .ok (.getfield 238, 3) := by decide +kernel
theorem dX11_move_70 : decode cX11_move 70 = .ok (.if_icmp .eq 9, 3) := by decide +kernel
theorem dX11_move_73 : decode cX11_move 73 = .ok (.aload_n 0, 1) := by decide +kernel
theorem dX11_move_74 : decode cX11_move 74 = .ok (.iconst 5, 1) := by decide +kernel
theorem dX11_move_75 : decode cX11_move 75 = .ok (.invokevirtual 78, 3) := by decide +kernel
theorem dX11_move_78 : decode cX11_move 78 = .ok (.ireturn, 1) := by decide +kernel
theorem dX11_move_79 : decode cX11_move 79 = .ok (.aload 6, 2) := by decide +kernel
theorem dX11_move_81 : decode cX11_move 81 = .ok (.iload_n 2, 1) := by decide +kernel
theorem dX11_move_82 : decode cX11_move 82 = .ok (.iload 5, 2) := by decide +kernel
theorem dX11_move_84 : decode cX11_move 84 = .ok (.invokevirtual 241, 3) := by decide +kernel
theorem dX11_move_87 : decode cX11_move 87 = .ok (.ifCond .eq 15, 3) := by decide +kernel
theorem dX11_move_90 : decode cX11_move 90 = .ok (.aload 7, 2) := by decide +kernel
theorem dX11_move_92 : decode cX11_move 92 = .ok (.iload 4, 2) := by decide +kernel
theorem dX11_move_94 : decode cX11_move 94 = .ok (.iload 5, 2) := by decide +kernel
theorem dX11_move_96 : decode cX11_move 96 = .ok (.invokevirtual 241, 3) := by decide +kernel
theorem dX11_move_99 : decode cX11_move 99 = .ok (.ifCond .ne 9, 3) := by decide +kernel
theorem dX11_move_102 : decode cX11_move 102 = .ok (.aload_n 0, 1) := by decide +kernel
theorem dX11_move_103 : decode cX11_move 103 = .ok (.iconst 1, 1) := by decide +kernel
theorem dX11_move_104 : decode cX11_move 104 = .ok (.invokevirtual 78, 3) := by decide +kernel
theorem dX11_move_107 : decode cX11_move 107 = .ok (.ireturn, 1) := by decide +kernel
theorem dX11_move_108 : decode cX11_move 108 = .ok (.aload 6, 2) := by decide +kernel
theorem dX11_move_110 : decode cX11_move 110 = .ok (.getfield 244, 3) := by decide +kernel
theorem dX11_move_113 : decode cX11_move 113 = .ok (.iload_n 2, 1) := by decide +kernel
theorem dX11_move_114 : decode cX11_move 114 = .ok (.aload 7, 2) := by decide +kernel
theorem dX11_move_116 : decode cX11_move 116 = .ok (.getfield 244, 3) := by decide +kernel
theorem dX11_move_119 : decode cX11_move 119 = .ok (.iload 4, 2) := by decide +kernel
theorem dX11_move_121 : decode cX11_move 121 = .ok (.iload 5, 2) := by decide +kernel
theorem dX11_move_123 : decode cX11_move 123 = .ok (.invokestatic 247, 3) := by decide +kernel
theorem dX11_move_126 : decode cX11_move 126 = .ok (.iload 5, 2) := by decide +kernel
theorem dX11_move_128 : decode cX11_move 128 = .ok (.ireturn, 1) := by decide +kernel
theorem dX11_image_0 : decode cX11_image 0 = .ok (.aload_n 0, 1) := by decide +kernel
theorem dX11_image_1 : decode cX11_image 1 = .ok (.getfield 46, 3) := by decide +kernel
theorem dX11_image_4 : decode cX11_image 4 = .ok (.aload_n 0, 1) := by decide +kernel
theorem dX11_image_5 : decode cX11_image 5 = .ok (.getfield 42, 3) := by decide +kernel
theorem dX11_image_8 : decode cX11_image 8 = .ok (.invokevirtual 253, 3) := by decide +kernel
theorem dX11_image_11 : decode cX11_image 11 = .ok (.aload_n 0, 1) := by decide +kernel
theorem dX11_image_12 : decode cX11_image 12 = .ok (.dup, 1) := by decide +kernel
theorem dX11_image_13 : decode cX11_image 13 = .ok (.getfield 70, 3) := by decide +kernel
theorem dX11_image_16 : decode cX11_image 16 = .ok (.iconst 1, 1) := by decide +kernel
theorem dX11_image_17 : decode cX11_image 17 = .ok (.iadd, 1) := by decide +kernel
theorem dX11_image_18 : decode cX11_image 18 = .ok (.putfield 70, 3) := by decide +kernel
theorem dX11_image_21 : decode cX11_image 21 = .ok (.aload_n 0, 1) := by decide +kernel
theorem dX11_image_22 : decode cX11_image 22 = .ok (.getfield 70, 3) := by decide +kernel
theorem dX11_image_25 : decode cX11_image 25 = .ok (.ireturn, 1) := by decide +kernel
theorem dX11_restore_0 : decode cX11_restore 0 = .ok (.aload_n 0, 1) := by decide +kernel
theorem dX11_restore_1 : decode cX11_restore 1 = .ok (.getfield 70, 3) := by decide +kernel
theorem dX11_restore_4 : decode cX11_restore 4 = .ok (.ifCond .ne 9, 3) := by decide +kernel
theorem dX11_restore_7 : decode cX11_restore 7 = .ok (.aload_n 0, 1) := by decide +kernel
theorem dX11_restore_8 : decode cX11_restore 8 = .ok (.iconst 2, 1) := by decide +kernel
theorem dX11_restore_9 : decode cX11_restore 9 = .ok (.invokevirtual 78, 3) := by decide +kernel
theorem dX11_restore_12 : decode cX11_restore 12 = .ok (.ireturn, 1) := by decide +kernel
theorem dX11_restore_13 : decode cX11_restore 13 = .ok (.aload_n 0, 1) := by decide +kernel
theorem dX11_restore_14 : decode cX11_restore 14 = .ok (.getfield 42, 3) := by decide +kernel
theorem dX11_restore_17 : decode cX11_restore 17 = .ok (.aload_n 0, 1) := by decide +kernel
theorem dX11_restore_18 : decode cX11_restore 18 = .ok (.getfield 46, 3) := by decide +kernel
theorem dX11_restore_21 : decode cX11_restore 21 = .ok (.invokevirtual 253, 3) := by decide +kernel
theorem dX11_restore_24 : decode cX11_restore 24 = .ok (.aload_n 0, 1) := by decide +kernel
theorem dX11_restore_25 : decode cX11_restore 25 = .ok (.getfield 42, 3) := by decide +kernel
theorem dX11_restore_28 : decode cX11_restore 28 = .ok (.getfield 257, 3) := by decide +kernel
theorem dX11_restore_31 : decode cX11_restore 31 = .ok (.ireturn, 1) := by decide +kernel
theorem dX11_tell_0 : decode cX11_tell 0 = .ok (.aload_n 0, 1) := by decide +kernel
theorem dX11_tell_1 : decode cX11_tell 1 = .ok (.getfield 42, 3) := by decide +kernel
theorem dX11_tell_4 : decode cX11_tell 4 = .ok (.getfield 260, 3) := by decide +kernel
theorem dX11_tell_7 : decode cX11_tell 7 = .ok (.bipush 20, 2) := by decide +kernel
theorem dX11_tell_9 : decode cX11_tell 9 = .ok (.if_icmp .lt 9, 3) := by decide +kernel
theorem dX11_tell_12 : decode cX11_tell 12 = .ok (.aload_n 0, 1) := by decide +kernel
theorem dX11_tell_13 : decode cX11_tell 13 = .ok (.iconst 4, 1) := by decide +kernel
theorem dX11_tell_14 : decode cX11_tell 14 = .ok (.invokevirtual 78, 3) := by decide +kernel
theorem dX11_tell_17 : decode cX11_tell 17 = .ok (.ireturn, 1) := by decide +kernel
theorem dX11_tell_18 : decode cX11_tell 18 = .ok (.aload_n 0, 1) := by decide +kernel
theorem dX11_tell_19 : decode cX11_tell 19 = .ok (.getfield 42, 3) := by decide +kernel
theorem dX11_tell_22 : decode cX11_tell 22 = .ok (.getfield 263, 3) := by decide +kernel
theorem dX11_tell_25 : decode cX11_tell 25 = .ok (.aload_n 0, 1) := by decide +kernel
theorem dX11_tell_26 : decode cX11_tell 26 = .ok (.getfield 42, 3) := by decide +kernel
theorem dX11_tell_29 : decode cX11_tell 29 = .ok (.getfield 260, 3) := by decide +kernel
theorem dX11_tell_32 : decode cX11_tell 32 = .ok (.iload_n 1, 1) := by decide +kernel
theorem dX11_tell_33 : decode cX11_tell 33 = .ok (.iastore, 1) := by decide +kernel
theorem dX11_tell_34 : decode cX11_tell 34 = .ok (.aload_n 0, 1) := by decide +kernel
theorem dX11_tell_35 : decode cX11_tell 35 = .ok (.getfield 42, 3) := by decide +kernel
theorem dX11_tell_38 : decode cX11_tell 38 = .ok (.dup, 1) := by decide +kernel
theorem dX11_tell_39 : decode cX11_tell 39 = .ok (.getfield 260, 3) := by decide +kernel
theorem dX11_tell_42 : decode cX11_tell 42 = .ok (.iconst 1, 1) := by decide +kernel
theorem dX11_tell_43 : decode cX11_tell 43 = .ok (.iadd, 1) := by decide +kernel
theorem dX11_tell_44 : decode cX11_tell 44 = .ok (.putfield 260, 3) := by decide +kernel
theorem dX11_tell_47 : decode cX11_tell 47 = .ok (.aload_n 0, 1) := by decide +kernel
theorem dX11_tell_48 : decode cX11_tell 48 = .ok (.getfield 42, 3) := by decide +kernel
theorem dX11_tell_51 : decode cX11_tell 51 = .ok (.getfield 260, 3) := by decide +kernel
theorem dX11_tell_54 : decode cX11_tell 54 = .ok (.ireturn, 1) := by decide +kernel
theorem dX11_check_0 : decode cX11_check 0 = .ok (.aload_n 0, 1) := by decide +kernel
theorem dX11_check_1 : decode cX11_check 1 = .ok (.getfield 42, 3) := by decide +kernel
theorem dX11_check_4 : decode cX11_check 4 = .ok (.getfield 260, 3) := by decide +kernel
theorem dX11_check_7 : decode cX11_check 7 = .ok (.istore_n 1, 1) := by decide +kernel
theorem dX11_check_8 : decode cX11_check 8 = .ok (.aload_n 0, 1) := by decide +kernel
theorem dX11_check_9 : decode cX11_check 9 = .ok (.getfield 42, 3) := by decide +kernel
theorem dX11_check_12 : decode cX11_check 12 = .ok (.iconst 0, 1) := by decide +kernel
theorem dX11_check_13 : decode cX11_check 13 = .ok (.putfield 260, 3) := by decide +kernel
theorem dX11_check_16 : decode cX11_check 16 = .ok (.aload_n 0, 1) := by decide +kernel
theorem dX11_check_17 : decode cX11_check 17 = .ok (.getfield 49, 3) := by decide +kernel
theorem dX11_check_20 : decode cX11_check 20 = .ok (.aload_n 0, 1) := by decide +kernel
theorem dX11_check_21 : decode cX11_check 21 = .ok (.getfield 42, 3) := by decide +kernel
theorem dX11_check_24 : decode cX11_check 24 = .ok (.invokevirtual 253, 3) := by decide +kernel
theorem dX11_check_27 : decode cX11_check 27 = .ok (.iconst 0, 1) := by decide +kernel
theorem dX11_check_28 : decode cX11_check 28 = .ok (.istore_n 2, 1) := by decide +kernel
theorem dX11_check_29 : decode cX11_check 29 = .ok (.iload_n 2, 1) := by decide +kernel
theorem dX11_check_30 : decode cX11_check 30 = .ok (.iload_n 1, 1) := by decide +kernel
theorem dX11_check_31 : decode cX11_check 31 = .ok (.if_icmp .ge 41, 3) := by decide +kernel
theorem dX11_check_34 : decode cX11_check 34 = .ok (.aload_n 0, 1) := by decide +kernel
theorem dX11_check_35 : decode cX11_check 35 = .ok (.getfield 49, 3) := by decide +kernel
theorem dX11_check_38 : decode cX11_check 38 = .ok (.iconst 1, 1) := by decide +kernel
theorem dX11_check_39 : decode cX11_check 39 = .ok (.iconst 0, 1) := by decide +kernel
theorem dX11_check_40 : decode cX11_check 40 = .ok (.invokevirtual 265, 3) := by decide +kernel
theorem dX11_check_43 : decode cX11_check 43 = .ok (.aload_n 0, 1) := by decide +kernel
theorem dX11_check_44 : decode cX11_check 44 = .ok (.getfield 49, 3) := by decide +kernel
theorem dX11_check_47 : decode cX11_check 47 = .ok (.getfield 113, 3) := by decide +kernel
theorem dX11_check_50 : decode cX11_check 50 = .ok (.aload_n 0, 1) := by decide +kernel
theorem dX11_check_51 : decode cX11_check 51 = .ok (.getfield 42, 3) := by decide +kernel
theorem dX11_check_54 : decode cX11_check 54 = .ok (.getfield 263, 3) := by decide +kernel
theorem dX11_check_57 : decode cX11_check 57 = .ok (.iload_n 2, 1) := by decide +kernel
theorem dX11_check_58 : decode cX11_check 58 = .ok (.iaload, 1) := by decide +kernel
theorem dX11_check_59 : decode cX11_check 59 = .ok (.if_icmp .eq 7, 3) := by decide +kernel
theorem dX11_check_62 : decode cX11_check 62 = .ok (.iconst 1, 1) := by decide +kernel
theorem dX11_check_63 : decode cX11_check 63 = .ok (.iload_n 2, 1) := by decide +kernel
theorem dX11_check_64 : decode cX11_check 64 = .ok (.iadd, 1) := by decide +kernel
theorem dX11_check_65 : decode cX11_check 65 = .ok (.ireturn, 1) := by decide +kernel
theorem dX11_check_66 : decode cX11_check 66 = .ok (.iinc 2 1, 3) := by decide +kernel
theorem dX11_check_69 : decode cX11_check 69 = .ok (.goto (-40), 3) := by decide +kernel
theorem dX11_check_72 : decode cX11_check 72 = .ok (.iconst 0, 1) := by decide +kernel
theorem dX11_check_73 : decode cX11_check 73 = .ok (.ireturn, 1) := by decide +kernel
theorem dX11_count_0 : decode cX11_count 0 = .ok (.iload_n 1, 1) := by decide +kernel
theorem dX11_count_1 : decode cX11_count 1 = .ok (.tableswitch 137 0 9 #[55, 63, 71, 79, 87, 95, 105, 113, 121, 129], 55) := by decide +kernel
theorem dX11_count_56 : decode cX11_count 56 = .ok (.aload_n 0, 1) := by decide +kernel
theorem dX11_count_57 : decode cX11_count 57 = .ok (.getfield 42, 3) := by decide +kernel
theorem dX11_count_60 : decode cX11_count 60 = .ok (.getfield 257, 3) := by decide +kernel
theorem dX11_count_63 : decode cX11_count 63 = .ok (.ireturn, 1) := by decide +kernel
theorem dX11_count_64 : decode cX11_count 64 = .ok (.aload_n 0, 1) := by decide +kernel
theorem dX11_count_65 : decode cX11_count 65 = .ok (.getfield 42, 3) := by decide +kernel
theorem dX11_count_68 : decode cX11_count 68 = .ok (.getfield 85, 3) := by decide +kernel
theorem dX11_count_71 : decode cX11_count 71 = .ok (.ireturn, 1) := by decide +kernel
theorem dX11_count_72 : decode cX11_count 72 = .ok (.aload_n 0, 1) := by decide +kernel
theorem dX11_count_73 : decode cX11_count 73 = .ok (.getfield 42, 3) := by decide +kernel
theorem dX11_count_76 : decode cX11_count 76 = .ok (.getfield 113, 3) := by decide +kernel
theorem dX11_count_79 : decode cX11_count 79 = .ok (.ireturn, 1) := by decide +kernel
theorem dX11_count_80 : decode cX11_count 80 = .ok (.aload_n 0, 1) := by decide +kernel
theorem dX11_count_81 : decode cX11_count 81 = .ok (.getfield 42, 3) := by decide +kernel
theorem dX11_count_84 : decode cX11_count 84 = .ok (.getfield 127, 3) := by decide +kernel
theorem dX11_count_87 : decode cX11_count 87 = .ok (.ireturn, 1) := by decide +kernel
theorem dX11_count_88 : decode cX11_count 88 = .ok (.aload_n 0, 1) := by decide +kernel
theorem dX11_count_89 : decode cX11_count 89 = .ok (.getfield 42, 3) := by decide +kernel
theorem dX11_count_92 : decode cX11_count 92 = .ok (.invokevirtual 172, 3) := by decide +kernel
theorem dX11_count_95 : decode cX11_count 95 = .ok (.ireturn, 1) := by decide +kernel
theorem dX11_count_96 : decode cX11_count 96 = .ok (.aload_n 0, 1) := by decide +kernel
theorem dX11_count_97 : decode cX11_count 97 = .ok (.getfield 42, 3) := by decide +kernel
theorem dX11_count_100 : decode cX11_count 100 = .ok (.getfield 82, 3) := by decide +kernel
theorem dX11_count_103 : decode cX11_count 103 = .ok (.iconst 2, 1) := by decide +kernel
theorem dX11_count_104 : decode cX11_count 104 = .ok (.iaload, 1) := by decide +kernel
theorem dX11_count_105 : decode cX11_count 105 = .ok (.ireturn, 1) := by decide +kernel
theorem dX11_count_106 : decode cX11_count 106 = .ok (.aload_n 0, 1) := by decide +kernel
theorem dX11_count_107 : decode cX11_count 107 = .ok (.getfield 42, 3) := by decide +kernel
theorem dX11_count_110 : decode cX11_count 110 = .ok (.getfield 130, 3) := by decide +kernel
theorem dX11_count_113 : decode cX11_count 113 = .ok (.ireturn, 1) := by decide +kernel
theorem dX11_count_114 : decode cX11_count 114 = .ok (.aload_n 0, 1) := by decide +kernel
theorem dX11_count_115 : decode cX11_count 115 = .ok (.getfield 42, 3) := by decide +kernel
theorem dX11_count_118 : decode cX11_count 118 = .ok (.getfield 260, 3) := by decide +kernel
theorem dX11_count_121 : decode cX11_count 121 = .ok (.ireturn, 1) := by decide +kernel
theorem dX11_count_122 : decode cX11_count 122 = .ok (.aload_n 0, 1) := by decide +kernel
theorem dX11_count_123 : decode cX11_count 123 = .ok (.getfield 62, 3) := by decide +kernel
theorem dX11_count_126 : decode cX11_count 126 = .ok (.getfield 226, 3) := by decide +kernel
theorem dX11_count_129 : decode cX11_count 129 = .ok (.ireturn, 1) := by decide +kernel
theorem dX11_count_130 : decode cX11_count 130 = .ok (.aload_n 0, 1) := by decide +kernel
theorem dX11_count_131 : decode cX11_count 131 = .ok (.getfield 42, 3) := by decide +kernel
theorem dX11_count_134 : decode cX11_count 134 = .ok (.getfield 202, 3) := by decide +kernel
theorem dX11_count_137 : decode cX11_count 137 = .ok (.ireturn, 1) := by decide +kernel
theorem dX11_count_138 : decode cX11_count 138 = .ok (.aload_n 0, 1) := by decide +kernel
theorem dX11_count_139 : decode cX11_count 139 = .ok (.iconst 1, 1) := by decide +kernel
theorem dX11_count_140 : decode cX11_count 140 = .ok (.invokevirtual 78, 3) := by decide +kernel
theorem dX11_count_143 : decode cX11_count 143 = .ok (.ireturn, 1) := by decide +kernel
theorem dX11_told_0 : decode cX11_told 0 = .ok (.iload_n 1, 1) := by decide +kernel
theorem dX11_told_1 : decode cX11_told 1 = .ok (.iconst 1, 1) := by decide +kernel
theorem dX11_told_2 : decode cX11_told 2 = .ok (.iconst 5, 1) := by decide +kernel
theorem dX11_told_3 : decode cX11_told 3 = .ok (.invokestatic 74, 3) := by decide +kernel
theorem dX11_told_6 : decode cX11_told 6 = .ok (.ifCond .eq 9, 3) := by decide +kernel
theorem dX11_told_9 : decode cX11_told 9 = .ok (.aload_n 0, 1) := by decide +kernel
theorem dX11_told_10 : decode cX11_told 10 = .ok (.iconst 1, 1) := by decide +kernel
theorem dX11_told_11 : decode cX11_told 11 = .ok (.invokevirtual 78, 3) := by decide +kernel
theorem dX11_told_14 : decode cX11_told 14 = .ok (.ireturn, 1) := by decide +kernel
theorem dX11_told_15 : decode cX11_told 15 = .ok (.aload_n 0, 1) := by decide +kernel
theorem dX11_told_16 : decode cX11_told 16 = .ok (.getfield 66, 3) := by decide +kernel
theorem dX11_told_19 : decode cX11_told 19 = .ok (.iload_n 1, 1) := by decide +kernel
theorem dX11_told_20 : decode cX11_told 20 = .ok (.iaload, 1) := by decide +kernel
theorem dX11_told_21 : decode cX11_told 21 = .ok (.ireturn, 1) := by decide +kernel
theorem dX11_error_0 : decode cX11_error 0 = .ok (.aload_n 0, 1) := by decide +kernel
theorem dX11_error_1 : decode cX11_error 1 = .ok (.getfield 66, 3) := by decide +kernel
theorem dX11_error_4 : decode cX11_error 4 = .ok (.iload_n 1, 1) := by decide +kernel
theorem dX11_error_5 : decode cX11_error 5 = .ok (.dup2, 1) := by decide +kernel
theorem dX11_error_6 : decode cX11_error 6 = .ok (.iaload, 1) := by decide +kernel
theorem dX11_error_7 : decode cX11_error 7 = .ok (.iconst 1, 1) := by decide +kernel
theorem dX11_error_8 : decode cX11_error 8 = .ok (.iadd, 1) := by decide +kernel
theorem dX11_error_9 : decode cX11_error 9 = .ok (.iastore, 1) := by decide +kernel
theorem dX11_error_10 : decode cX11_error 10 = .ok (.ldc_w 269, 3) := by decide +kernel
theorem dX11_error_13 : decode cX11_error 13 = .ok (.iload_n 1, 1) := by decide +kernel
theorem dX11_error_14 : decode cX11_error 14 = .ok (.isub, 1) := by decide +kernel
theorem dX11_error_15 : decode cX11_error 15 = .ok (.ireturn, 1) := by decide +kernel
theorem dX11_isOutside_0 : decode cX11_isOutside 0 = .ok (.iload_n 0, 1) := by decide +kernel
theorem dX11_isOutside_1 : decode cX11_isOutside 1 = .ok (.iload_n 1, 1) := by decide +kernel
theorem dX11_isOutside_2 : decode cX11_isOutside 2 = .ok (.if_icmp .lt 8, 3) := by decide +kernel
theorem dX11_isOutside_5 : decode cX11_isOutside 5 = .ok (.iload_n 0, 1) := by decide +kernel
theorem dX11_isOutside_6 : decode cX11_isOutside 6 = .ok (.iload_n 2, 1) := by decide +kernel
theorem dX11_isOutside_7 : decode cX11_isOutside 7 = .ok (.if_icmp .le 7, 3) := by decide +kernel
theorem dX11_isOutside_10 : decode cX11_isOutside 10 = .ok (.iconst 1, 1) := by decide +kernel
theorem dX11_isOutside_11 : decode cX11_isOutside 11 = .ok (.goto 4, 3) := by decide +kernel
theorem dX11_isOutside_14 : decode cX11_isOutside 14 = .ok (.iconst 0, 1) := by decide +kernel
theorem dX11_isOutside_15 : decode cX11_isOutside 15 = .ok (.ireturn, 1) := by decide +kernel
theorem dX11_isNoVoice_0 : decode cX11_isNoVoice 0 = .ok (.iload_n 1, 1) := by decide +kernel
theorem dX11_isNoVoice_1 : decode cX11_isNoVoice 1 = .ok (.iconst 0, 1) := by decide +kernel
theorem dX11_isNoVoice_2 : decode cX11_isNoVoice 2 = .ok (.aload_n 0, 1) := by decide +kernel
theorem dX11_isNoVoice_3 : decode cX11_isNoVoice 3 = .ok (.getfield 42, 3) := by decide +kernel
theorem dX11_isNoVoice_6 : decode cX11_isNoVoice 6 = .ok (.getfield 85, 3) := by decide +kernel
theorem dX11_isNoVoice_9 : decode cX11_isNoVoice 9 = .ok (.iconst 1, 1) := by decide +kernel
theorem dX11_isNoVoice_10 : decode cX11_isNoVoice 10 = .ok (.isub, 1) := by decide +kernel
theorem dX11_isNoVoice_11 : decode cX11_isNoVoice 11 = .ok (.invokestatic 74, 3) := by decide +kernel
theorem dX11_isNoVoice_14 : decode cX11_isNoVoice 14 = .ok (.ireturn, 1) := by decide +kernel
theorem dX11_isNoSheet_0 : decode cX11_isNoSheet 0 = .ok (.iload_n 1, 1) := by decide +kernel
theorem dX11_isNoSheet_1 : decode cX11_isNoSheet 1 = .ok (.iconst 0, 1) := by decide +kernel
theorem dX11_isNoSheet_2 : decode cX11_isNoSheet 2 = .ok (.iconst 3, 1) := by decide +kernel
theorem dX11_isNoSheet_3 : decode cX11_isNoSheet 3 = .ok (.invokestatic 74, 3) := by decide +kernel
theorem dX11_isNoSheet_6 : decode cX11_isNoSheet 6 = .ok (.ireturn, 1) := by decide +kernel
theorem dX11_isUnder_0 : decode cX11_isUnder 0 = .ok (.iload_n 0, 1) := by decide +kernel
theorem dX11_isUnder_1 : decode cX11_isUnder 1 = .ok (.istore_n 2, 1) := by decide +kernel
theorem dX11_isUnder_2 : decode cX11_isUnder 2 = .ok (.iconst 0, 1) := by decide +kernel
theorem dX11_isUnder_3 : decode cX11_isUnder 3 = .ok (.istore_n 3, 1) := by decide +kernel
theorem dX11_isUnder_4 : decode cX11_isUnder 4 = .ok (.iload_n 3, 1) := by decide +kernel
theorem dX11_isUnder_5 : decode cX11_isUnder 5 = .ok (.bipush 7, 2) := by decide +kernel
theorem dX11_isUnder_7 : decode cX11_isUnder 7 = .ok (.if_icmp .ge 32, 3) := by decide +kernel
theorem dX11_isUnder_10 : decode cX11_isUnder 10 = .ok (.iload_n 2, 1) := by decide +kernel
theorem dX11_isUnder_11 : decode cX11_isUnder 11 = .ok (.iconst 0, 1) := by decide +kernel
theorem dX11_isUnder_12 : decode cX11_isUnder 12 = .ok (.bipush 6, 2) := by decide +kernel
theorem dX11_isUnder_14 : decode cX11_isUnder 14 = .ok (.invokestatic 74, 3) := by decide +kernel
theorem dX11_isUnder_17 : decode cX11_isUnder 17 = .ok (.ifCond .ne 22, 3) := by decide +kernel
theorem dX11_isUnder_20 : decode cX11_isUnder 20 = .ok (.iload_n 2, 1) := by decide +kernel
theorem dX11_isUnder_21 : decode cX11_isUnder 21 = .ok (.iload_n 1, 1) := by decide +kernel
theorem dX11_isUnder_22 : decode cX11_isUnder 22 = .ok (.if_icmp .ne 5, 3) := by decide +kernel
theorem dX11_isUnder_25 : decode cX11_isUnder 25 = .ok (.iconst 1, 1) := by decide +kernel
theorem dX11_isUnder_26 : decode cX11_isUnder 26 = .ok (.ireturn, 1) := by decide +kernel
theorem dX11_isUnder_27 : decode cX11_isUnder 27 = .ok (.getstatic 270, 3) := by decide +kernel
theorem dX11_isUnder_30 : decode cX11_isUnder 30 = .ok (.iload_n 2, 1) := by decide +kernel
theorem dX11_isUnder_31 : decode cX11_isUnder 31 = .ok (.iaload, 1) := by decide +kernel
theorem dX11_isUnder_32 : decode cX11_isUnder 32 = .ok (.istore_n 2, 1) := by decide +kernel
theorem dX11_isUnder_33 : decode cX11_isUnder 33 = .ok (.iinc 3 1, 3) := by decide +kernel
theorem dX11_isUnder_36 : decode cX11_isUnder 36 = .ok (.goto (-32), 3) := by decide +kernel
theorem dX11_isUnder_39 : decode cX11_isUnder 39 = .ok (.iconst 0, 1) := by decide +kernel
theorem dX11_isUnder_40 : decode cX11_isUnder 40 = .ok (.ireturn, 1) := by decide +kernel
theorem dX11_goOn_0 : decode cX11_goOn 0 = .ok (.iload_n 1, 1) := by decide +kernel
theorem dX11_goOn_1 : decode cX11_goOn 1 = .ok (.iconst 1, 1) := by decide +kernel
theorem dX11_goOn_2 : decode cX11_goOn 2 = .ok (.sipush 200, 3) := by decide +kernel
theorem dX11_goOn_5 : decode cX11_goOn 5 = .ok (.invokestatic 74, 3) := by decide +kernel
theorem dX11_goOn_8 : decode cX11_goOn 8 = .ok (.ifCond .eq 9, 3) := by decide +kernel
theorem dX11_goOn_11 : decode cX11_goOn 11 = .ok (.aload_n 0, 1) := by decide +kernel
theorem dX11_goOn_12 : decode cX11_goOn 12 = .ok (.iconst 1, 1) := by decide +kernel
theorem dX11_goOn_13 : decode cX11_goOn 13 = .ok (.invokevirtual 78, 3) := by decide +kernel
theorem dX11_goOn_16 : decode cX11_goOn 16 = .ok (.ireturn, 1) := by decide +kernel
theorem dX11_goOn_17 : decode cX11_goOn 17 = .ok (.aload_n 0, 1) := by decide +kernel
theorem dX11_goOn_18 : decode cX11_goOn 18 = .ok (.getfield 42, 3) := by decide +kernel
theorem dX11_goOn_21 : decode cX11_goOn 21 = .ok (.getfield 257, 3) := by decide +kernel
theorem dX11_goOn_24 : decode cX11_goOn 24 = .ok (.iload_n 1, 1) := by decide +kernel
theorem dX11_goOn_25 : decode cX11_goOn 25 = .ok (.iadd, 1) := by decide +kernel
theorem dX11_goOn_26 : decode cX11_goOn 26 = .ok (.sipush 9999, 3) := by decide +kernel
theorem dX11_goOn_29 : decode cX11_goOn 29 = .ok (.if_icmp .le 9, 3) := by decide +kernel
theorem dX11_goOn_32 : decode cX11_goOn 32 = .ok (.aload_n 0, 1) := by decide +kernel
theorem dX11_goOn_33 : decode cX11_goOn 33 = .ok (.iconst 3, 1) := by decide +kernel
theorem dX11_goOn_34 : decode cX11_goOn 34 = .ok (.invokevirtual 78, 3) := by decide +kernel
theorem dX11_goOn_37 : decode cX11_goOn 37 = .ok (.ireturn, 1) := by decide +kernel
theorem dX11_goOn_38 : decode cX11_goOn 38 = .ok (.aload_n 0, 1) := by decide +kernel
theorem dX11_goOn_39 : decode cX11_goOn 39 = .ok (.getfield 42, 3) := by decide +kernel
theorem dX11_goOn_42 : decode cX11_goOn 42 = .ok (.iload_n 1, 1) := by decide +kernel
theorem dX11_goOn_43 : decode cX11_goOn 43 = .ok (.iload_n 2, 1) := by decide +kernel
theorem dX11_goOn_44 : decode cX11_goOn 44 = .ok (.invokevirtual 265, 3) := by decide +kernel
theorem dX11_goOn_47 : decode cX11_goOn 47 = .ok (.aload_n 0, 1) := by decide +kernel
theorem dX11_goOn_48 : decode cX11_goOn 48 = .ok (.getfield 42, 3) := by decide +kernel
theorem dX11_goOn_51 : decode cX11_goOn 51 = .ok (.getfield 113, 3) := by decide +kernel
theorem dX11_goOn_54 : decode cX11_goOn 54 = .ok (.ireturn, 1) := by decide +kernel
theorem dX11_goAhead_0 : decode cX11_goAhead 0 = .ok (.aload_n 0, 1) := by decide +kernel
theorem dX11_goAhead_1 : decode cX11_goAhead 1 = .ok (.getfield 49, 3) := by decide +kernel
theorem dX11_goAhead_4 : decode cX11_goAhead 4 = .ok (.aload_n 0, 1) := by decide +kernel
theorem dX11_goAhead_5 : decode cX11_goAhead 5 = .ok (.getfield 42, 3) := by decide +kernel
theorem dX11_goAhead_8 : decode cX11_goAhead 8 = .ok (.invokevirtual 253, 3) := by decide +kernel
theorem dX11_goAhead_11 : decode cX11_goAhead 11 = .ok (.aload_n 0, 1) := by decide +kernel
theorem dX11_goAhead_12 : decode cX11_goAhead 12 = .ok (.getfield 49, 3) := by decide +kernel
theorem dX11_goAhead_15 : decode cX11_goAhead 15 = .ok (.iload_n 1, 1) := by decide +kernel
theorem dX11_goAhead_16 : decode cX11_goAhead 16 = .ok (.iconst 0, 1) := by decide +kernel
theorem dX11_goAhead_17 : decode cX11_goAhead 17 = .ok (.invokevirtual 265, 3) := by decide +kernel
theorem dX11_goAhead_20 : decode cX11_goAhead 20 = .ok (.return_, 1) := by decide +kernel
theorem dX11_taughtAhead_0 : decode cX11_taughtAhead 0 = .ok (.aload_n 0, 1) := by decide +kernel
theorem dX11_taughtAhead_1 : decode cX11_taughtAhead 1 = .ok (.getfield 49, 3) := by decide +kernel
theorem dX11_taughtAhead_4 : decode cX11_taughtAhead 4 = .ok (.aload_n 0, 1) := by decide +kernel
theorem dX11_taughtAhead_5 : decode cX11_taughtAhead 5 = .ok (.getfield 42, 3) := by decide +kernel
theorem dX11_taughtAhead_8 : decode cX11_taughtAhead 8 = .ok (.invokevirtual 253, 3) := by decide +kernel
theorem dX11_taughtAhead_11 : decode cX11_taughtAhead 11 = .ok (.iload_n 2, 1) := by decide +kernel
theorem dX11_taughtAhead_12 : decode cX11_taughtAhead 12 = .ok (.iconst 0, 1) := by decide +kernel
theorem dX11_taughtAhead_13 : decode cX11_taughtAhead 13 = .ok (.aload_n 0, 1) := by decide +kernel
theorem dX11_taughtAhead_14 : decode cX11_taughtAhead 14 = .ok (.getfield 49, 3) := by decide +kernel
theorem dX11_taughtAhead_17 : decode cX11_taughtAhead 17 = .ok (.getfield 85, 3) := by decide +kernel
theorem dX11_taughtAhead_20 : decode cX11_taughtAhead 20 = .ok (.iconst 1, 1) := by decide +kernel
theorem dX11_taughtAhead_21 : decode cX11_taughtAhead 21 = .ok (.isub, 1) := by decide +kernel
theorem dX11_taughtAhead_22 : decode cX11_taughtAhead 22 = .ok (.invokestatic 74, 3) := by decide +kernel
theorem dX11_taughtAhead_25 : decode cX11_taughtAhead 25 = .ok (.ifCond .ne 27, 3) := by decide +kernel
theorem dX11_taughtAhead_28 : decode cX11_taughtAhead 28 = .ok (.aload_n 0, 1) := by decide +kernel
theorem dX11_taughtAhead_29 : decode cX11_taughtAhead 29 = .ok (.getfield 49, 3) := by decide +kernel
theorem dX11_taughtAhead_32 : decode cX11_taughtAhead 32 = .ok (.getfield 99, 3) := by decide +kernel
theorem dX11_taughtAhead_35 : decode cX11_taughtAhead 35 = .ok (.iconst 2, 1) := by decide +kernel
theorem dX11_taughtAhead_36 : decode cX11_taughtAhead 36 = .ok (.aaload, 1) := by decide +kernel
theorem dX11_taughtAhead_37 : decode cX11_taughtAhead 37 = .ok (.iload_n 2, 1) := by decide +kernel
theorem dX11_taughtAhead_38 : decode cX11_taughtAhead 38 = .ok (.iconst 1, 1) := by decide +kernel
theorem dX11_taughtAhead_39 : decode cX11_taughtAhead 39 = .ok (.aload_n 0, 1) := by decide +kernel
theorem dX11_taughtAhead_40 : decode cX11_taughtAhead 40 = .ok (.getfield 49, 3) := by decide +kernel
theorem dX11_taughtAhead_43 : decode cX11_taughtAhead 43 = .ok (.getfield 99, 3) := by decide +kernel
theorem dX11_taughtAhead_46 : decode cX11_taughtAhead 46 = .ok (.iconst 2, 1) := by decide +kernel
theorem dX11_taughtAhead_47 : decode cX11_taughtAhead 47 = .ok (.aaload, 1) := by decide +kernel
theorem dX11_taughtAhead_48 : decode cX11_taughtAhead 48 = .ok (.iload_n 2, 1) := by decide +kernel
theorem dX11_taughtAhead_49 : decode cX11_taughtAhead 49 = .ok (.iaload, 1) := by decide +kernel
theorem dX11_taughtAhead_50 : decode cX11_taughtAhead 50 = .ok (.isub, 1) := by decide +kernel
theorem dX11_taughtAhead_51 : decode cX11_taughtAhead 51 = .ok (.iastore, 1) := by decide +kernel
theorem dX11_taughtAhead_52 : decode cX11_taughtAhead 52 = .ok (.aload_n 0, 1) := by decide +kernel
theorem dX11_taughtAhead_53 : decode cX11_taughtAhead 53 = .ok (.getfield 49, 3) := by decide +kernel
theorem dX11_taughtAhead_56 : decode cX11_taughtAhead 56 = .ok (.iload_n 1, 1) := by decide +kernel
theorem dX11_taughtAhead_57 : decode cX11_taughtAhead 57 = .ok (.iconst 0, 1) := by decide +kernel
theorem dX11_taughtAhead_58 : decode cX11_taughtAhead 58 = .ok (.invokevirtual 265, 3) := by decide +kernel
theorem dX11_taughtAhead_61 : decode cX11_taughtAhead 61 = .ok (.aload_n 0, 1) := by decide +kernel
theorem dX11_taughtAhead_62 : decode cX11_taughtAhead 62 = .ok (.getfield 49, 3) := by decide +kernel
theorem dX11_taughtAhead_65 : decode cX11_taughtAhead 65 = .ok (.invokevirtual 123, 3) := by decide +kernel
theorem dX11_taughtAhead_68 : decode cX11_taughtAhead 68 = .ok (.ireturn, 1) := by decide +kernel
theorem dX12_init_0 : decode cX12_init 0 = .ok (.aload_n 0, 1) := by decide +kernel
theorem dX12_init_1 : decode cX12_init 1 = .ok (.invokespecial 1, 3) := by decide +kernel
theorem dX12_init_4 : decode cX12_init 4 = .ok (.aload_n 0, 1) := by decide +kernel
theorem dX12_init_5 : decode cX12_init 5 = .ok (.sipush 490, 3) := by decide +kernel
theorem dX12_init_8 : decode cX12_init 8 = .ok (.newarray .int, 2) := by decide +kernel
theorem dX12_init_10 : decode cX12_init 10 = .ok (.putfield 7, 3) := by decide +kernel
theorem dX12_init_13 : decode cX12_init 13 = .ok (.aload_n 0, 1) := by decide +kernel
theorem dX12_init_14 : decode cX12_init 14 = .ok (.sipush 490, 3) := by decide +kernel
theorem dX12_init_17 : decode cX12_init 17 = .ok (.newarray .int, 2) := by decide +kernel
theorem dX12_init_19 : decode cX12_init 19 = .ok (.putfield 13, 3) := by decide +kernel
theorem dX12_init_22 : decode cX12_init 22 = .ok (.aload_n 0, 1) := by decide +kernel
theorem dX12_init_23 : decode cX12_init 23 = .ok (.sipush 490, 3) := by decide +kernel
theorem dX12_init_26 : decode cX12_init 26 = .ok (.newarray .int, 2) := by decide +kernel
theorem dX12_init_28 : decode cX12_init 28 = .ok (.putfield 16, 3) := by decide +kernel
theorem dX12_init_31 : decode cX12_init 31 = .ok (.aload_n 0, 1) := by decide +kernel
theorem dX12_init_32 : decode cX12_init 32 = .ok (.bipush 6, 2) := by decide +kernel
theorem dX12_init_34 : decode cX12_init 34 = .ok (.newarray .int, 2) := by decide +kernel
theorem dX12_init_36 : decode cX12_init 36 = .ok (.putfield 19, 3) := by decide +kernel
theorem dX12_init_39 : decode cX12_init 39 = .ok (.aload_n 0, 1) := by decide +kernel
theorem dX12_init_40 : decode cX12_init 40 = .ok (.iconst 4, 1) := by decide +kernel
theorem dX12_init_41 : decode cX12_init 41 = .ok (.newarray .int, 2) := by decide +kernel
theorem dX12_init_43 : decode cX12_init 43 = .ok (.putfield 22, 3) := by decide +kernel
theorem dX12_init_46 : decode cX12_init 46 = .ok (.aload_n 0, 1) := by decide +kernel
theorem dX12_init_47 : decode cX12_init 47 = .ok (.iconst 4, 1) := by decide +kernel
theorem dX12_init_48 : decode cX12_init 48 = .ok (.newarray .int, 2) := by decide +kernel
theorem dX12_init_50 : decode cX12_init 50 = .ok (.putfield 25, 3) := by decide +kernel
theorem dX12_init_53 : decode cX12_init 53 = .ok (.aload_n 0, 1) := by decide +kernel
theorem dX12_init_54 : decode cX12_init 54 = .ok (.iconst 4, 1) := by decide +kernel
theorem dX12_init_55 : decode cX12_init 55 = .ok (.newarray .int, 2) := by decide +kernel
theorem dX12_init_57 : decode cX12_init 57 = .ok (.putfield 28, 3) := by decide +kernel
theorem dX12_init_60 : decode cX12_init 60 = .ok (.aload_n 0, 1) := by decide +kernel
theorem dX12_init_61 : decode cX12_init 61 = .ok (.sipush 160, 3) := by decide +kernel
theorem dX12_init_64 : decode cX12_init 64 = .ok (.newarray .int, 2) := by decide +kernel
theorem dX12_init_66 : decode cX12_init 66 = .ok (.putfield 31, 3) := by decide +kernel
theorem dX12_init_69 : decode cX12_init 69 = .ok (.aload_n 0, 1) := by decide +kernel
theorem dX12_init_70 : decode cX12_init 70 = .ok (.bipush 40, 2) := by decide +kernel
theorem dX12_init_72 : decode cX12_init 72 = .ok (.newarray .int, 2) := by decide +kernel
theorem dX12_init_74 : decode cX12_init 74 = .ok (.putfield 34, 3) := by decide +kernel
theorem dX12_init_77 : decode cX12_init 77 = .ok (.aload_n 0, 1) := by decide +kernel
theorem dX12_init_78 : decode cX12_init 78 = .ok (.iconst 5, 1) := by decide +kernel
theorem dX12_init_79 : decode cX12_init 79 = .ok (.newarray .int, 2) := by decide +kernel
theorem dX12_init_81 : decode cX12_init 81 = .ok (.putfield 37, 3) := by decide +kernel
theorem dX12_init_84 : decode cX12_init 84 = .ok (.aload_n 0, 1) := by decide +kernel
theorem dX12_init_85 : decode cX12_init 85 = .ok (.iconst 5, 1) := by decide +kernel
theorem dX12_init_86 : decode cX12_init 86 = .ok (.newarray .int, 2) := by decide +kernel
theorem dX12_init_88 : decode cX12_init 88 = .ok (.putfield 40, 3) := by decide +kernel
theorem dX12_init_91 : decode cX12_init 91 = .ok (.aload_n 0, 1) := by decide +kernel
theorem dX12_init_92 : decode cX12_init 92 = .ok (.bipush 12, 2) := by decide +kernel
theorem dX12_init_94 : decode cX12_init 94 = .ok (.newarray .int, 2) := by decide +kernel
theorem dX12_init_96 : decode cX12_init 96 = .ok (.putfield 43, 3) := by decide +kernel
theorem dX12_init_99 : decode cX12_init 99 = .ok (.aload_n 0, 1) := by decide +kernel
theorem dX12_init_100 : decode cX12_init 100 = .ok (.bipush 12, 2) := by decide +kernel
theorem dX12_init_102 : decode cX12_init 102 = .ok (.newarray .int, 2) := by decide +kernel
theorem dX12_init_104 : decode cX12_init 104 = .ok (.putfield 46, 3) := by decide +kernel
theorem dX12_init_107 : decode cX12_init 107 = .ok (.aload_n 0, 1) := by decide +kernel
theorem dX12_init_108 : decode cX12_init 108 = .ok (.bipush 41, 2) := by decide +kernel
theorem dX12_init_110 : decode cX12_init 110 = .ok (.newarray .int, 2) := by decide +kernel
theorem dX12_init_112 : decode cX12_init 112 = .ok (.putfield 49, 3) := by decide +kernel
theorem dX12_init_115 : decode cX12_init 115 = .ok (.aload_n 0, 1) := by decide +kernel
theorem dX12_init_116 : decode cX12_init 116 = .ok (.bipush 40, 2) := by decide +kernel
theorem dX12_init_118 : decode cX12_init 118 = .ok (.newarray .int, 2) := by decide +kernel
theorem dX12_init_120 : decode cX12_init 120 = .ok (.putfield 52, 3) := by decide +kernel
theorem dX12_init_123 : decode cX12_init 123 = .ok (.aload_n 0, 1) := by decide +kernel
theorem dX12_init_124 : decode cX12_init 124 = .ok (.getfield 7, 3) := by decide +kernel
theorem dX12_init_127 : decode cX12_init 127 = .ok (.iconst 0, 1) := by decide +kernel
theorem dX12_init_128 : decode cX12_init 128 = .ok (.bipush 7, 2) := by decide +kernel
theorem dX12_init_130 : decode cX12_init 130 = .ok (.iastore, 1) := by decide +kernel
theorem dX12_init_131 : decode cX12_init 131 = .ok (.aload_n 0, 1) := by decide +kernel
theorem dX12_init_132 : decode cX12_init 132 = .ok (.getfield 7, 3) := by decide +kernel
theorem dX12_init_135 : decode cX12_init 135 = .ok (.bipush 7, 2) := by decide +kernel
theorem dX12_init_137 : decode cX12_init 137 = .ok (.iconst 1, 1) := by decide +kernel
theorem dX12_init_138 : decode cX12_init 138 = .ok (.iastore, 1) := by decide +kernel
theorem dX12_init_139 : decode cX12_init 139 = .ok (.return_, 1) := by decide +kernel
theorem dX12_finds_0 : decode cX12_finds 0 = .ok (.aload_n 0, 1) := by decide +kernel
theorem dX12_finds_1 : decode cX12_finds 1 = .ok (.getfield 19, 3) := by decide +kernel
theorem dX12_finds_4 : decode cX12_finds 4 = .ok (.iload_n 1, 1) := by decide +kernel
theorem dX12_finds_5 : decode cX12_finds 5 = .ok (.dup2, 1) := by decide +kernel
theorem dX12_finds_6 : decode cX12_finds 6 = .ok (.iaload, 1) := by decide +kernel
theorem dX12_finds_7 : decode cX12_finds 7 = .ok (.iconst 1, 1) := by decide +kernel
theorem dX12_finds_8 : decode cX12_finds 8 = .ok (.iadd, 1) := by decide +kernel
theorem dX12_finds_9 : decode cX12_finds 9 = .ok (.iastore, 1) := by decide +kernel
theorem dX12_finds_10 : decode cX12_finds 10 = .ok (.ldc 55, 2) := by decide +kernel
theorem dX12_finds_12 : decode cX12_finds 12 = .ok (.iload_n 1, 1) := by decide +kernel
theorem dX12_finds_13 : decode cX12_finds 13 = .ok (.isub, 1) := by decide +kernel
theorem dX12_finds_14 : decode cX12_finds 14 = .ok (.ireturn, 1) := by decide +kernel
theorem dX12_in_0 : decode cX12_in 0 = .ok (.lload_n 0, 1) := by decide +kernel
theorem dX12_in_1 : decode cX12_in 1 = .ok (.lload_n 2, 1) := by decide +kernel
theorem dX12_in_2 : decode cX12_in 2 = .ok (.lcmp, 1) := by decide +kernel
theorem dX12_in_3 : decode cX12_in 3 = .ok (.ifCond .lt 14, 3) := by decide +kernel
theorem dX12_in_6 : decode cX12_in 6 = .ok (.lload_n 0, 1) := by decide +kernel
theorem dX12_in_7 : decode cX12_in 7 = .ok (.lload 4, 2) := by decide +kernel
theorem dX12_in_9 : decode cX12_in 9 = .ok (.lcmp, 1) := by decide +kernel
theorem dX12_in_10 : decode cX12_in 10 = .ok (.ifCond .gt 7, 3) := by decide +kernel
theorem dX12_in_13 : decode cX12_in 13 = .ok (.iconst 1, 1) := by decide +kernel
theorem dX12_in_14 : decode cX12_in 14 = .ok (.goto 4, 3) := by decide +kernel
theorem dX12_in_17 : decode cX12_in 17 = .ok (.iconst 0, 1) := by decide +kernel
theorem dX12_in_18 : decode cX12_in 18 = .ok (.ireturn, 1) := by decide +kernel
theorem dX12_held_0 : decode cX12_held 0 = .ok (.iload_n 0, 1) := by decide +kernel
theorem dX12_held_1 : decode cX12_held 1 = .ok (.iload_n 1, 1) := by decide +kernel
theorem dX12_held_2 : decode cX12_held 2 = .ok (.if_icmp .ge 7, 3) := by decide +kernel
theorem dX12_held_5 : decode cX12_held 5 = .ok (.iload_n 1, 1) := by decide +kernel
theorem dX12_held_6 : decode cX12_held 6 = .ok (.goto 13, 3) := by decide +kernel
theorem dX12_held_9 : decode cX12_held 9 = .ok (.iload_n 0, 1) := by decide +kernel
theorem dX12_held_10 : decode cX12_held 10 = .ok (.iload_n 2, 1) := by decide +kernel
theorem dX12_held_11 : decode cX12_held 11 = .ok (.if_icmp .le 7, 3) := by decide +kernel
theorem dX12_held_14 : decode cX12_held 14 = .ok (.iload_n 2, 1) := by decide +kernel
theorem dX12_held_15 : decode cX12_held 15 = .ok (.goto 4, 3) := by decide +kernel
theorem dX12_held_18 : decode cX12_held 18 = .ok (.iload_n 0, 1) := by decide +kernel
theorem dX12_held_19 : decode cX12_held 19 = .ok (.ireturn, 1) := by decide +kernel
theorem dX12_copies_0 : decode cX12_copies 0 = .ok (.iconst 0, 1) := by decide +kernel
theorem dX12_copies_1 : decode cX12_copies 1 = .ok (.istore_n 2, 1) := by decide +kernel
theorem dX12_copies_2 : decode cX12_copies 2 = .ok (.iload_n 2, 1) := by decide +kernel
theorem dX12_copies_3 : decode cX12_copies 3 = .ok (.sipush 490, 3) := by decide +kernel
theorem dX12_copies_6 : decode cX12_copies 6 = .ok (.if_icmp .ge 15, 3) := by decide +kernel
theorem dX12_copies_9 : decode cX12_copies 9 = .ok (.aload_n 1, 1) := by decide +kernel
theorem dX12_copies_10 : decode cX12_copies 10 = .ok (.iload_n 2, 1) := by decide +kernel
theorem dX12_copies_11 : decode cX12_copies 11 = .ok (.aload_n 0, 1) := by decide +kernel
theorem dX12_copies_12 : decode cX12_copies 12 = .ok (.iload_n 2, 1) := by decide +kernel
theorem dX12_copies_13 : decode cX12_copies 13 = .ok (.iaload, 1) := by decide +kernel
theorem dX12_copies_14 : decode cX12_copies 14 = .ok (.iastore, 1) := by decide +kernel
theorem dX12_copies_15 : decode cX12_copies 15 = .ok (.iinc 2 1, 3) := by decide +kernel
theorem dX12_copies_18 : decode cX12_copies 18 = .ok (.goto (-16), 3) := by decide +kernel
theorem dX12_copies_21 : decode cX12_copies 21 = .ok (.return_, 1) := by decide +kernel
theorem dX12_isVoice_0 : decode cX12_isVoice 0 = .ok (.iload_n 1, 1) := by decide +kernel
theorem dX12_isVoice_1 : decode cX12_isVoice 1 = .ok (.i2l, 1) := by decide +kernel
theorem dX12_isVoice_2 : decode cX12_isVoice 2 = .ok (.lconst 0, 1) := by decide +kernel
theorem dX12_isVoice_3 : decode cX12_isVoice 3 = .ok (.aload_n 0, 1) := by decide +kernel
theorem dX12_isVoice_4 : decode cX12_isVoice 4 = .ok (.getfield 7, 3) := by decide +kernel
theorem dX12_isVoice_7 : decode cX12_isVoice 7 = .ok (.iconst 4, 1) := by decide +kernel
theorem dX12_isVoice_8 : decode cX12_isVoice 8 = .ok (.iaload, 1) := by decide +kernel
theorem dX12_isVoice_9 : decode cX12_isVoice 9 = .ok (.iconst 1, 1) := by decide +kernel
theorem dX12_isVoice_10 : decode cX12_isVoice 10 = .ok (.isub, 1) := by decide +kernel
theorem dX12_isVoice_11 : decode cX12_isVoice 11 = .ok (.i2l, 1) := by decide +kernel
theorem dX12_isVoice_12 : decode cX12_isVoice 12 = .ok (.invokestatic 56, 3) := by decide +kernel
theorem dX12_isVoice_15 : decode cX12_isVoice 15 = .ok (.ireturn, 1) := by decide +kernel
theorem dX12_isShout_0 : decode cX12_isShout 0 = .ok (.iload_n 1, 1) := by decide +kernel
theorem dX12_isShout_1 : decode cX12_isShout 1 = .ok (.i2l, 1) := by decide +kernel
theorem dX12_isShout_2 : decode cX12_isShout 2 = .ok (.lconst 0, 1) := by decide +kernel
theorem dX12_isShout_3 : decode cX12_isShout 3 = .ok (.aload_n 0, 1) := by decide +kernel
theorem dX12_isShout_4 : decode cX12_isShout 4 = .ok (.getfield 7, 3) := by decide +kernel
theorem dX12_isShout_7 : decode cX12_isShout 7 = .ok (.iconst 5, 1) := by decide +kernel
theorem dX12_isShout_8 : decode cX12_isShout 8 = .ok (.iaload, 1) := by decide +kernel
theorem dX12_isShout_9 : decode cX12_isShout 9 = .ok (.iconst 1, 1) := by decide +kernel
theorem dX12_isShout_10 : decode cX12_isShout 10 = .ok (.isub, 1) := by decide +kernel
theorem dX12_isShout_11 : decode cX12_isShout 11 = .ok (.i2l, 1) := by decide +kernel
theorem dX12_isShout_12 : decode cX12_isShout 12 = .ok (.invokestatic 56, 3) := by decide +kernel
theorem dX12_isShout_15 : decode cX12_isShout 15 = .ok (.ireturn, 1) := by decide +kernel
theorem dX12_of_0 : decode cX12_of 0 = .ok (.aload_n 0, 1) := by decide +kernel
theorem dX12_of_1 : decode cX12_of 1 = .ok (.getfield 7, 3) := by decide +kernel
theorem dX12_of_4 : decode cX12_of 4 = .ok (.bipush 10, 2) := by decide +kernel
theorem dX12_of_6 : decode cX12_of 6 = .ok (.iconst 3, 1) := by decide +kernel
theorem dX12_of_7 : decode cX12_of 7 = .ok (.iload_n 1, 1) := by decide +kernel
theorem dX12_of_8 : decode cX12_of 8 = .ok (.imul, 1) := by decide +kernel
theorem dX12_of_9 : decode cX12_of 9 = .ok (.iadd, 1) := by decide +kernel
theorem dX12_of_10 : decode cX12_of 10 = .ok (.iload_n 2, 1) := by decide +kernel
theorem dX12_of_11 : decode cX12_of 11 = .ok (.iadd, 1) := by decide +kernel
theorem dX12_of_12 : decode cX12_of 12 = .ok (.iaload, 1) := by decide +kernel
theorem dX12_of_13 : decode cX12_of 13 = .ok (.ireturn, 1) := by decide +kernel
theorem dX12_ofIt_0 : decode cX12_ofIt 0 = .ok (.aload_n 0, 1) := by decide +kernel
theorem dX12_ofIt_1 : decode cX12_ofIt 1 = .ok (.getfield 7, 3) := by decide +kernel
theorem dX12_ofIt_4 : decode cX12_ofIt 4 = .ok (.bipush 28, 2) := by decide +kernel
theorem dX12_ofIt_6 : decode cX12_ofIt 6 = .ok (.bipush 6, 2) := by decide +kernel
theorem dX12_ofIt_8 : decode cX12_ofIt 8 = .ok (.iload_n 1, 1) := by decide +kernel
theorem dX12_ofIt_9 : decode cX12_ofIt 9 = .ok (.imul, 1) := by decide +kernel
theorem dX12_ofIt_10 : decode cX12_ofIt 10 = .ok (.iadd, 1) := by decide +kernel
theorem dX12_ofIt_11 : decode cX12_ofIt 11 = .ok (.iload_n 2, 1) := by decide +kernel
theorem dX12_ofIt_12 : decode cX12_ofIt 12 = .ok (.iadd, 1) := by decide +kernel
theorem dX12_ofIt_13 : decode cX12_ofIt 13 = .ok (.iaload, 1) := by decide +kernel
theorem dX12_ofIt_14 : decode cX12_ofIt 14 = .ok (.ireturn, 1) := by decide +kernel
theorem dX12_gap_0 : decode cX12_gap 0 = .ok (.aload_n 0, 1) := by decide +kernel
theorem dX12_gap_1 : decode cX12_gap 1 = .ok (.getfield 7, 3) := by decide +kernel
theorem dX12_gap_4 : decode cX12_gap 4 = .ok (.iconst 0, 1) := by decide +kernel
theorem dX12_gap_5 : decode cX12_gap 5 = .ok (.iaload, 1) := by decide +kernel
theorem dX12_gap_6 : decode cX12_gap 6 = .ok (.aload_n 0, 1) := by decide +kernel
theorem dX12_gap_7 : decode cX12_gap 7 = .ok (.getfield 7, 3) := by decide +kernel
theorem dX12_gap_10 : decode cX12_gap 10 = .ok (.iconst 1, 1) := by decide +kernel
theorem dX12_gap_11 : decode cX12_gap 11 = .ok (.iaload, 1) := by decide +kernel
theorem dX12_gap_12 : decode cX12_gap 12 = .ok (.iadd, 1) := by decide +kernel
theorem dX12_gap_13 : decode cX12_gap 13 = .ok (.ireturn, 1) := by decide +kernel
theorem dX12_isWord_0 : decode cX12_isWord 0 = .ok (.iload_n 0, 1) := by decide +kernel
theorem dX12_isWord_1 : decode cX12_isWord 1 = .ok (.i2l, 1) := by decide +kernel
theorem dX12_isWord_2 : decode cX12_isWord 2 = .ok (.lconst 0, 1) := by decide +kernel
theorem dX12_isWord_3 : decode cX12_isWord 3 = .ok (.ldc2_w 60, 3) := by decide +kernel
theorem dX12_isWord_6 : decode cX12_isWord 6 = .ok (.invokestatic 56, 3) := by decide +kernel
theorem dX12_isWord_9 : decode cX12_isWord 9 = .ok (.ireturn, 1) := by decide +kernel
theorem dX12_here_0 : decode cX12_here 0 = .ok (.aload_n 0, 1) := by decide +kernel
theorem dX12_here_1 : decode cX12_here 1 = .ok (.getfield 62, 3) := by decide +kernel
theorem dX12_here_4 : decode cX12_here 4 = .ok (.aload_n 0, 1) := by decide +kernel
theorem dX12_here_5 : decode cX12_here 5 = .ok (.getfield 66, 3) := by decide +kernel
theorem dX12_here_8 : decode cX12_here 8 = .ok (.if_icmp .ge 27, 3) := by decide +kernel
theorem dX12_here_11 : decode cX12_here 11 = .ok (.aload_n 0, 1) := by decide +kernel
theorem dX12_here_12 : decode cX12_here 12 = .ok (.getfield 69, 3) := by decide +kernel
theorem dX12_here_15 : decode cX12_here 15 = .ok (.ifCond .ge 20, 3) := by decide +kernel
theorem dX12_here_18 : decode cX12_here 18 = .ok (.aload_n 0, 1) := by decide +kernel
theorem dX12_here_19 : decode cX12_here 19 = .ok (.getfield 7, 3) := by decide +kernel
theorem dX12_here_22 : decode cX12_here 22 = .ok (.aload_n 0, 1) := by decide +kernel
theorem dX12_here_23 : decode cX12_here 23 = .ok (.getfield 72, 3) := by decide +kernel
theorem dX12_here_26 : decode cX12_here 26 = .ok (.aload_n 0, 1) := by decide +kernel
theorem dX12_here_27 : decode cX12_here 27 = .ok (.getfield 62, 3) := by decide +kernel
theorem dX12_here_30 : decode cX12_here 30 = .ok (.iadd, 1) := by decide +kernel
theorem dX12_here_31 : decode cX12_here 31 = .ok (.iaload, 1) := by decide +kernel
theorem dX12_here_32 : decode cX12_here 32 = .ok (.goto 4, 3) := by decide +kernel
theorem dX12_here_35 : decode cX12_here 35 = .ok (.iconst (-1), 1) := by decide +kernel
theorem dX12_here_36 : decode cX12_here 36 = .ok (.ireturn, 1) := by decide +kernel
theorem dX12_wrong_0 : decode cX12_wrong 0 = .ok (.aload_n 0, 1) := by decide +kernel
theorem dX12_wrong_1 : decode cX12_wrong 1 = .ok (.aload_n 0, 1) := by decide +kernel
theorem dX12_wrong_2 : decode cX12_wrong 2 = .ok (.getfield 69, 3) := by decide +kernel
theorem dX12_wrong_5 : decode cX12_wrong 5 = .ok (.ifCond .ge 10, 3) := by decide +kernel
theorem dX12_wrong_8 : decode cX12_wrong 8 = .ok (.aload_n 0, 1) := by decide +kernel
theorem dX12_wrong_9 : decode cX12_wrong 9 = .ok (.getfield 62, 3) := by decide +kernel
theorem dX12_wrong_12 : decode cX12_wrong 12 = .ok (.goto 7, 3) := by decide +kernel
theorem dX12_wrong_15 : decode cX12_wrong 15 = .ok (.aload_n 0, 1) := by decide +kernel
theorem dX12_wrong_16 : decode cX12_wrong 16 = .ok (.getfield 69, 3) := by decide +kernel
theorem dX12_wrong_19 : decode cX12_wrong 19 = .ok (.putfield 69, 3) := by decide +kernel
theorem dX12_wrong_22 : decode cX12_wrong 22 = .ok (.iconst 0, 1) := by decide +kernel
theorem dX12_wrong_23 : decode cX12_wrong 23 = .ok (.ireturn, 1) := by decide +kernel
theorem dX12_takes_0 : decode cX12_takes 0 = .ok (.aload_n 0, 1) := by decide +kernel
theorem dX12_takes_1 : decode cX12_takes 1 = .ok (.invokevirtual 75, 3) := by decide +kernel
theorem dX12_takes_4 : decode cX12_takes 4 = .ok (.iload_n 1, 1) := by decide +kernel
theorem dX12_takes_5 : decode cX12_takes 5 = .ok (.if_icmp .eq 5, 3) := by decide +kernel
theorem dX12_takes_8 : decode cX12_takes 8 = .ok (.iconst 0, 1) := by decide +kernel
theorem dX12_takes_9 : decode cX12_takes 9 = .ok (.ireturn, 1) := by decide +kernel
theorem dX12_takes_10 : decode cX12_takes 10 = .ok (.aload_n 0, 1) := by decide +kernel
theorem dX12_takes_11 : decode cX12_takes 11 = .ok (.dup, 1) := by decide +kernel
theorem dX12_takes_12 : decode cX12_takes 12 = .ok (.getfield 62, 3) := by decide +kernel
theorem dX12_takes_15 : decode cX12_takes 15 = .ok (.iconst 1, 1) := by decide +kernel
theorem dX12_takes_16 : decode cX12_takes 16 = .ok (.iadd, 1) := by decide +kernel
theorem dX12_takes_17 : decode cX12_takes 17 = .ok (.putfield 62, 3) := by decide +kernel
theorem dX12_takes_20 : decode cX12_takes 20 = .ok (.iconst 1, 1) := by decide +kernel
theorem dX12_takes_21 : decode cX12_takes 21 = .ok (.ireturn, 1) := by decide +kernel
theorem dX12_nameOf_0 : decode cX12_nameOf 0 = .ok (.aload_n 0, 1) := by decide +kernel
theorem dX12_nameOf_1 : decode cX12_nameOf 1 = .ok (.getfield 79, 3) := by decide +kernel
theorem dX12_nameOf_4 : decode cX12_nameOf 4 = .ok (.ifCond .eq 35, 3) := by decide +kernel
theorem dX12_nameOf_7 : decode cX12_nameOf 7 = .ok (.iload_n 1, 1) := by decide +kernel
theorem dX12_nameOf_8 : decode cX12_nameOf 8 = .ok (.bipush 119, 2) := by decide +kernel
theorem dX12_nameOf_10 : decode cX12_nameOf 10 = .ok (.if_icmp .ne 7, 3) := by decide +kernel
theorem dX12_nameOf_13 : decode cX12_nameOf 13 = .ok (.iconst 0, 1) := by decide +kernel
theorem dX12_nameOf_14 : decode cX12_nameOf 14 = .ok (.goto 24, 3) := by decide +kernel
theorem dX12_nameOf_17 : decode cX12_nameOf 17 = .ok (.iload_n 1, 1) := by decide +kernel
theorem dX12_nameOf_18 : decode cX12_nameOf 18 = .ok (.bipush 109, 2) := by decide +kernel
theorem dX12_nameOf_20 : decode cX12_nameOf 20 = .ok (.if_icmp .ne 7, 3) := by decide +kernel
theorem dX12_nameOf_23 : decode cX12_nameOf 23 = .ok (.iconst 1, 1) := by decide +kernel
theorem dX12_nameOf_24 : decode cX12_nameOf 24 = .ok (.goto 14, 3) := by decide +kernel
theorem dX12_nameOf_27 : decode cX12_nameOf 27 = .ok (.iload_n 1, 1) := by decide +kernel
theorem dX12_nameOf_28 : decode cX12_nameOf 28 = .ok (.bipush 99, 2) := by decide +kernel
theorem dX12_nameOf_30 : decode cX12_nameOf 30 = .ok (.if_icmp .ne 7, 3) := by decide +kernel
theorem dX12_nameOf_33 : decode cX12_nameOf 33 = .ok (.iconst 2, 1) := by decide +kernel
theorem dX12_nameOf_34 : decode cX12_nameOf 34 = .ok (.goto 4, 3) := by decide +kernel
theorem dX12_nameOf_37 : decode cX12_nameOf 37 = .ok (.iconst (-1), 1) := by decide +kernel
theorem dX12_nameOf_38 : decode cX12_nameOf 38 = .ok (.ireturn, 1) := by decide +kernel
theorem dX12_nameOf_39 : decode cX12_nameOf 39 = .ok (.iload_n 1, 1) := by decide +kernel
theorem dX12_nameOf_40 : decode cX12_nameOf 40 = .ok (.bipush 119, 2) := by decide +kernel
theorem dX12_nameOf_42 : decode cX12_nameOf 42 = .ok (.if_icmp .ne 7, 3) := by decide +kernel
theorem dX12_nameOf_45 : decode cX12_nameOf 45 = .ok (.iconst 0, 1) := by decide +kernel
theorem dX12_nameOf_46 : decode cX12_nameOf 46 = .ok (.goto 34, 3) := by decide +kernel
theorem dX12_nameOf_49 : decode cX12_nameOf 49 = .ok (.iload_n 1, 1) := by decide +kernel
theorem dX12_nameOf_50 : decode cX12_nameOf 50 = .ok (.bipush 102, 2) := by decide +kernel
theorem dX12_nameOf_52 : decode cX12_nameOf 52 = .ok (.if_icmp .ne 7, 3) := by decide +kernel
theorem dX12_nameOf_55 : decode cX12_nameOf 55 = .ok (.iconst 1, 1) := by decide +kernel
theorem dX12_nameOf_56 : decode cX12_nameOf 56 = .ok (.goto 24, 3) := by decide +kernel
theorem dX12_nameOf_59 : decode cX12_nameOf 59 = .ok (.iload_n 1, 1) := by decide +kernel
theorem dX12_nameOf_60 : decode cX12_nameOf 60 = .ok (.bipush 105, 2) := by decide +kernel
theorem dX12_nameOf_62 : decode cX12_nameOf 62 = .ok (.if_icmp .ne 7, 3) := by decide +kernel
theorem dX12_nameOf_65 : decode cX12_nameOf 65 = .ok (.iconst 2, 1) := by decide +kernel
theorem dX12_nameOf_66 : decode cX12_nameOf 66 = .ok (.goto 14, 3) := by decide +kernel
theorem dX12_nameOf_69 : decode cX12_nameOf 69 = .ok (.iload_n 1, 1) := by decide +kernel
theorem dX12_nameOf_70 : decode cX12_nameOf 70 = .ok (.bipush 107, 2) := by decide +kernel
theorem dX12_nameOf_72 : decode cX12_nameOf 72 = .ok (.if_icmp .ne 7, 3) := by decide +kernel
theorem dX12_nameOf_75 : decode cX12_nameOf 75 = .ok (.iconst 3, 1) := by decide +kernel
theorem dX12_nameOf_76 : decode cX12_nameOf 76 = .ok (.goto 4, 3) := by decide +kernel
theorem dX12_nameOf_79 : decode cX12_nameOf 79 = .ok (.iconst (-1), 1) := by decide +kernel
theorem dX12_nameOf_80 : decode cX12_nameOf 80 = .ok (.ireturn, 1) := by decide +kernel
theorem dX12_either_0 : decode cX12_either 0 = .ok (.aload_n 0, 1) := by decide +kernel
theorem dX12_either_1 : decode cX12_either 1 = .ok (.invokevirtual 83, 3) := by decide +kernel
theorem dX12_either_4 : decode cX12_either 4 = .ok (.istore_n 1, 1) := by decide +kernel
theorem dX12_either_5 : decode cX12_either 5 = .ok (.aload_n 0, 1) := by decide +kernel
theorem dX12_either_6 : decode cX12_either 6 = .ok (.bipush 124, 2) := by decide +kernel
theorem dX12_either_8 : decode cX12_either 8 = .ok (.invokevirtual 86, 3) := by decide +kernel
theorem dX12_either_11 : decode cX12_either 11 = .ok (.ifCond .eq 25, 3) := by decide +kernel
theorem dX12_either_14 : decode cX12_either 14 = .ok (.aload_n 0, 1) := by decide +kernel
theorem dX12_either_15 : decode cX12_either 15 = .ok (.invokevirtual 83, 3) := by decide +kernel
theorem dX12_either_18 : decode cX12_either 18 = .ok (.istore_n 2, 1) := by decide +kernel
theorem dX12_either_19 : decode cX12_either 19 = .ok (.iload_n 1, 1) := by decide +kernel
theorem dX12_either_20 : decode cX12_either 20 = .ok (.ifCond .ne 7, 3) := by decide +kernel
theorem dX12_either_23 : decode cX12_either 23 = .ok (.iload_n 2, 1) := by decide +kernel
theorem dX12_either_24 : decode cX12_either 24 = .ok (.ifCond .eq 7, 3) := by decide +kernel
theorem dX12_either_27 : decode cX12_either 27 = .ok (.iconst 1, 1) := by decide +kernel
theorem dX12_either_28 : decode cX12_either 28 = .ok (.goto 4, 3) := by decide +kernel
theorem dX12_either_31 : decode cX12_either 31 = .ok (.iconst 0, 1) := by decide +kernel
theorem dX12_either_32 : decode cX12_either 32 = .ok (.istore_n 1, 1) := by decide +kernel
theorem dX12_either_33 : decode cX12_either 33 = .ok (.goto (-28), 3) := by decide +kernel
theorem dX12_either_36 : decode cX12_either 36 = .ok (.iload_n 1, 1) := by decide +kernel
theorem dX12_either_37 : decode cX12_either 37 = .ok (.ireturn, 1) := by decide +kernel
theorem dX12_both_0 : decode cX12_both 0 = .ok (.aload_n 0, 1) := by decide +kernel
theorem dX12_both_1 : decode cX12_both 1 = .ok (.invokevirtual 90, 3) := by decide +kernel
theorem dX12_both_4 : decode cX12_both 4 = .ok (.istore_n 1, 1) := by decide +kernel
theorem dX12_both_5 : decode cX12_both 5 = .ok (.aload_n 0, 1) := by decide +kernel
theorem dX12_both_6 : decode cX12_both 6 = .ok (.bipush 38, 2) := by decide +kernel
theorem dX12_both_8 : decode cX12_both 8 = .ok (.invokevirtual 86, 3) := by decide +kernel
theorem dX12_both_11 : decode cX12_both 11 = .ok (.ifCond .eq 25, 3) := by decide +kernel
theorem dX12_both_14 : decode cX12_both 14 = .ok (.aload_n 0, 1) := by decide +kernel
theorem dX12_both_15 : decode cX12_both 15 = .ok (.invokevirtual 90, 3) := by decide +kernel
theorem dX12_both_18 : decode cX12_both 18 = .ok (.istore_n 2, 1) := by decide +kernel
theorem dX12_both_19 : decode cX12_both 19 = .ok (.iload_n 1, 1) := by decide +kernel
theorem dX12_both_20 : decode cX12_both 20 = .ok (.ifCond .eq 11, 3) := by decide +kernel
theorem dX12_both_23 : decode cX12_both 23 = .ok (.iload_n 2, 1) := by decide +kernel
theorem dX12_both_24 : decode cX12_both 24 = .ok (.ifCond .eq 7, 3) := by decide +kernel
theorem dX12_both_27 : decode cX12_both 27 = .ok (.iconst 1, 1) := by decide +kernel
theorem dX12_both_28 : decode cX12_both 28 = .ok (.goto 4, 3) := by decide +kernel
theorem dX12_both_31 : decode cX12_both 31 = .ok (.iconst 0, 1) := by decide +kernel
theorem dX12_both_32 : decode cX12_both 32 = .ok (.istore_n 1, 1) := by decide +kernel
theorem dX12_both_33 : decode cX12_both 33 = .ok (.goto (-28), 3) := by decide +kernel
theorem dX12_both_36 : decode cX12_both 36 = .ok (.iload_n 1, 1) := by decide +kernel
theorem dX12_both_37 : decode cX12_both 37 = .ok (.ireturn, 1) := by decide +kernel
theorem dX12_compared_0 : decode cX12_compared 0 = .ok (.aload_n 0, 1) := by decide +kernel
theorem dX12_compared_1 : decode cX12_compared 1 = .ok (.invokevirtual 93, 3) := by decide +kernel
theorem dX12_compared_4 : decode cX12_compared 4 = .ok (.istore_n 1, 1) := by decide +kernel
theorem dX12_compared_5 : decode cX12_compared 5 = .ok (.aload_n 0, 1) := by decide +kernel
theorem dX12_compared_6 : decode cX12_compared 6 = .ok (.invokevirtual 75, 3) := by decide +kernel
theorem dX12_compared_9 : decode cX12_compared 9 = .ok (.istore_n 2, 1) := by decide +kernel
theorem dX12_compared_10 : decode cX12_compared 10 = .ok (.iload_n 2, 1) := by decide +kernel
theorem dX12_compared_11 : decode cX12_compared 11 = .ok (.bipush 60, 2) := by decide +kernel
theorem dX12_compared_13 : decode cX12_compared 13 = .ok (.if_icmp .eq 17, 3) := by decide +kernel
theorem dX12_compared_16 : decode cX12_compared 16 = .ok (.iload_n 2, 1) := by decide +kernel
theorem dX12_compared_17 : decode cX12_compared 17 = .ok (.bipush 61, 2) := by decide +kernel
theorem dX12_compared_19 : decode cX12_compared 19 = .ok (.if_icmp .eq 11, 3) := by decide +kernel
theorem dX12_compared_22 : decode cX12_compared 22 = .ok (.iload_n 2, 1) := by decide +kernel
theorem dX12_compared_23 : decode cX12_compared 23 = .ok (.bipush 62, 2) := by decide +kernel
theorem dX12_compared_25 : decode cX12_compared 25 = .ok (.if_icmp .eq 5, 3) := by decide +kernel
theorem dX12_compared_28 : decode cX12_compared 28 = .ok (.iload_n 1, 1) := by decide +kernel
theorem dX12_compared_29 : decode cX12_compared 29 = .ok (.ireturn, 1) := by decide +kernel
theorem dX12_compared_30 : decode cX12_compared 30 = .ok (.aload_n 0, 1) := by decide +kernel
theorem dX12_compared_31 : decode cX12_compared 31 = .ok (.dup, 1) := by decide +kernel
theorem dX12_compared_32 : decode cX12_compared 32 = .ok (.getfield 62, 3) := by decide +kernel
theorem dX12_compared_35 : decode cX12_compared 35 = .ok (.iconst 1, 1) := by decide +kernel
theorem dX12_compared_36 : decode cX12_compared 36 = .ok (.iadd, 1) := by decide +kernel
theorem dX12_compared_37 : decode cX12_compared 37 = .ok (.putfield 62, 3) := by decide +kernel
theorem dX12_compared_40 : decode cX12_compared 40 = .ok (.aload_n 0, 1) := by decide +kernel
theorem dX12_compared_41 : decode cX12_compared 41 = .ok (.invokevirtual 93, 3) := by decide +kernel
theorem dX12_compared_44 : decode cX12_compared 44 = .ok (.istore_n 3, 1) := by decide +kernel
theorem dX12_compared_45 : decode cX12_compared 45 = .ok (.iload_n 2, 1) := by decide +kernel
theorem dX12_compared_46 : decode cX12_compared 46 = .ok (.bipush 60, 2) := by decide +kernel
theorem dX12_compared_48 : decode cX12_compared 48 = .ok (.if_icmp .ne 11, 3) := by decide +kernel
theorem dX12_compared_51 : decode cX12_compared 51 = .ok (.iload_n 1, 1) := by decide +kernel
theorem dX12_compared_52 : decode cX12_compared 52 = .ok (.iload_n 3, 1) := by decide +kernel
theorem dX12_compared_53 : decode cX12_compared 53 = .ok (.if_icmp .ge 29, 3) := by decide +kernel
theorem dX12_compared_56 : decode cX12_compared 56 = .ok (.goto 22, 3) := by decide +kernel
theorem dX12_compared_59 : decode cX12_compared 59 = .ok (.iload_n 2, 1) := by decide +kernel
theorem dX12_compared_60 : decode cX12_compared 60 = .ok (.bipush 61, 2) := by decide +kernel
theorem dX12_compared_62 : decode cX12_compared 62 = .ok (.if_icmp .ne 11, 3) := by decide +kernel
theorem dX12_compared_65 : decode cX12_compared 65 = .ok (.iload_n 1, 1) := by decide +kernel
theorem dX12_compared_66 : decode cX12_compared 66 = .ok (.iload_n 3, 1) := by decide +kernel
theorem dX12_compared_67 : decode cX12_compared 67 = .ok (.if_icmp .ne 15, 3) := by decide +kernel
theorem dX12_compared_70 : decode cX12_compared 70 = .ok (.goto 8, 3) := by decide +kernel
theorem dX12_compared_73 : decode cX12_compared 73 = .ok (.iload_n 1, 1) := by decide +kernel
theorem dX12_compared_74 : decode cX12_compared 74 = .ok (.iload_n 3, 1) := by decide +kernel
theorem dX12_compared_75 : decode cX12_compared 75 = .ok (.if_icmp .le 7, 3) := by decide +kernel
theorem dX12_compared_78 : decode cX12_compared 78 = .ok (.iconst 1, 1) := by decide +kernel
theorem dX12_compared_79 : decode cX12_compared 79 = .ok (.goto 4, 3) := by decide +kernel
theorem dX12_compared_82 : decode cX12_compared 82 = .ok (.iconst 0, 1) := by decide +kernel
theorem dX12_compared_83 : decode cX12_compared 83 = .ok (.ireturn, 1) := by decide +kernel
theorem dX12_sum_0 : decode cX12_sum 0 = .ok (.aload_n 0, 1) := by decide +kernel
theorem dX12_sum_1 : decode cX12_sum 1 = .ok (.invokevirtual 96, 3) := by decide +kernel
theorem dX12_sum_4 : decode cX12_sum 4 = .ok (.istore_n 1, 1) := by decide +kernel
theorem dX12_sum_5 : decode cX12_sum 5 = .ok (.aload_n 0, 1) := by decide +kernel
theorem dX12_sum_6 : decode cX12_sum 6 = .ok (.invokevirtual 75, 3) := by decide +kernel
theorem dX12_sum_9 : decode cX12_sum 9 = .ok (.bipush 43, 2) := by decide +kernel
theorem dX12_sum_11 : decode cX12_sum 11 = .ok (.if_icmp .eq 12, 3) := by decide +kernel
theorem dX12_sum_14 : decode cX12_sum 14 = .ok (.aload_n 0, 1) := by decide +kernel
theorem dX12_sum_15 : decode cX12_sum 15 = .ok (.invokevirtual 75, 3) := by decide +kernel
theorem dX12_sum_18 : decode cX12_sum 18 = .ok (.bipush 45, 2) := by decide +kernel
theorem dX12_sum_20 : decode cX12_sum 20 = .ok (.if_icmp .ne 42, 3) := by decide +kernel
theorem dX12_sum_23 : decode cX12_sum 23 = .ok (.aload_n 0, 1) := by decide +kernel
theorem dX12_sum_24 : decode cX12_sum 24 = .ok (.invokevirtual 75, 3) := by decide +kernel
theorem dX12_sum_27 : decode cX12_sum 27 = .ok (.istore_n 2, 1) := by decide +kernel
theorem dX12_sum_28 : decode cX12_sum 28 = .ok (.aload_n 0, 1) := by decide +kernel
theorem dX12_sum_29 : decode cX12_sum 29 = .ok (.dup, 1) := by decide +kernel
theorem dX12_sum_30 : decode cX12_sum 30 = .ok (.getfield 62, 3) := by decide +kernel
theorem dX12_sum_33 : decode cX12_sum 33 = .ok (.iconst 1, 1) := by decide +kernel
theorem dX12_sum_34 : decode cX12_sum 34 = .ok (.iadd, 1) := by decide +kernel
theorem dX12_sum_35 : decode cX12_sum 35 = .ok (.putfield 62, 3) := by decide +kernel
theorem dX12_sum_38 : decode cX12_sum 38 = .ok (.aload_n 0, 1) := by decide +kernel
theorem dX12_sum_39 : decode cX12_sum 39 = .ok (.invokevirtual 96, 3) := by decide +kernel
theorem dX12_sum_42 : decode cX12_sum 42 = .ok (.istore_n 3, 1) := by decide +kernel
theorem dX12_sum_43 : decode cX12_sum 43 = .ok (.iload_n 2, 1) := by decide +kernel
theorem dX12_sum_44 : decode cX12_sum 44 = .ok (.bipush 43, 2) := by decide +kernel
theorem dX12_sum_46 : decode cX12_sum 46 = .ok (.if_icmp .ne 9, 3) := by decide +kernel
theorem dX12_sum_49 : decode cX12_sum 49 = .ok (.iload_n 1, 1) := by decide +kernel
theorem dX12_sum_50 : decode cX12_sum 50 = .ok (.iload_n 3, 1) := by decide +kernel
theorem dX12_sum_51 : decode cX12_sum 51 = .ok (.iadd, 1) := by decide +kernel
theorem dX12_sum_52 : decode cX12_sum 52 = .ok (.goto 6, 3) := by decide +kernel
theorem dX12_sum_55 : decode cX12_sum 55 = .ok (.iload_n 1, 1) := by decide +kernel
theorem dX12_sum_56 : decode cX12_sum 56 = .ok (.iload_n 3, 1) := by decide +kernel
theorem dX12_sum_57 : decode cX12_sum 57 = .ok (.isub, 1) := by decide +kernel
theorem dX12_sum_58 : decode cX12_sum 58 = .ok (.istore_n 1, 1) := by decide +kernel
theorem dX12_sum_59 : decode cX12_sum 59 = .ok (.goto (-54), 3) := by decide +kernel
theorem dX12_sum_62 : decode cX12_sum 62 = .ok (.iload_n 1, 1) := by decide +kernel
theorem dX12_sum_63 : decode cX12_sum 63 = .ok (.ireturn, 1) := by decide +kernel
theorem dX12_product_0 : decode cX12_product 0 = .ok (.aload_n 0, 1) := by decide +kernel
theorem dX12_product_1 : decode cX12_product 1 = .ok (.invokevirtual 99, 3) := by decide +kernel
theorem dX12_product_4 : decode cX12_product 4 = .ok (.istore_n 1, 1) := by decide +kernel
theorem dX12_product_5 : decode cX12_product 5 = .ok (.aload_n 0, 1) := by decide +kernel
theorem dX12_product_6 : decode cX12_product 6 = .ok (.invokevirtual 75, 3) := by decide +kernel
theorem dX12_product_9 : decode cX12_product 9 = .ok (.bipush 42, 2) := by decide +kernel
theorem dX12_product_11 : decode cX12_product 11 = .ok (.if_icmp .eq 21, 3) := by decide +kernel
theorem dX12_product_14 : decode cX12_product 14 = .ok (.aload_n 0, 1) := by decide +kernel
theorem dX12_product_15 : decode cX12_product 15 = .ok (.invokevirtual 75, 3) := by decide +kernel
theorem dX12_product_18 : decode cX12_product 18 = .ok (.bipush 47, 2) := by decide +kernel
theorem dX12_product_20 : decode cX12_product 20 = .ok (.if_icmp .eq 12, 3) := by decide +kernel
theorem dX12_product_23 : decode cX12_product 23 = .ok (.aload_n 0, 1) := by decide +kernel
theorem dX12_product_24 : decode cX12_product 24 = .ok (.invokevirtual 75, 3) := by decide +kernel
theorem dX12_product_27 : decode cX12_product 27 = .ok (.bipush 37, 2) := by decide +kernel
theorem dX12_product_29 : decode cX12_product 29 = .ok (.if_icmp .ne 62, 3) := by decide +kernel
theorem dX12_product_32 : decode cX12_product 32 = .ok (.aload_n 0, 1) := by decide +kernel
theorem dX12_product_33 : decode cX12_product 33 = .ok (.invokevirtual 75, 3) := by decide +kernel
theorem dX12_product_36 : decode cX12_product 36 = .ok (.istore_n 2, 1) := by decide +kernel
theorem dX12_product_37 : decode cX12_product 37 = .ok (.aload_n 0, 1) := by decide +kernel
theorem dX12_product_38 : decode cX12_product 38 = .ok (.dup, 1) := by decide +kernel
theorem dX12_product_39 : decode cX12_product 39 = .ok (.getfield 62, 3) := by decide +kernel
theorem dX12_product_42 : decode cX12_product 42 = .ok (.iconst 1, 1) := by decide +kernel
theorem dX12_product_43 : decode cX12_product 43 = .ok (.iadd, 1) := by decide +kernel
theorem dX12_product_44 : decode cX12_product 44 = .ok (.putfield 62, 3) := by decide +kernel
theorem dX12_product_47 : decode cX12_product 47 = .ok (.aload_n 0, 1) := by decide +kernel
theorem dX12_product_48 : decode cX12_product 48 = .ok (.invokevirtual 99, 3) := by decide +kernel
theorem dX12_product_51 : decode cX12_product 51 = .ok (.istore_n 3, 1) := by decide +kernel
theorem dX12_product_52 : decode cX12_product 52 = .ok (.iload_n 2, 1) := by decide +kernel
theorem dX12_product_53 : decode cX12_product 53 = .ok (.bipush 42, 2) := by decide +kernel
theorem dX12_product_55 : decode cX12_product 55 = .ok (.if_icmp .ne 9, 3) := by decide +kernel
theorem dX12_product_58 : decode cX12_product 58 = .ok (.iload_n 1, 1) := by decide +kernel
theorem dX12_product_59 : decode cX12_product 59 = .ok (.iload_n 3, 1) := by decide +kernel
theorem dX12_product_60 : decode cX12_product 60 = .ok (.imul, 1) := by decide +kernel
theorem dX12_product_61 : decode cX12_product 61 = .ok (.goto 26, 3) := by decide +kernel
theorem dX12_product_64 : decode cX12_product 64 = .ok (.iload_n 3, 1) := by decide +kernel
theorem dX12_product_65 : decode cX12_product 65 = .ok (.ifCond .ne 7, 3) := by decide +kernel
theorem dX12_product_68 : decode cX12_product 68 = .ok (.iconst 0, 1) := by decide +kernel
theorem dX12_product_69 : decode cX12_product 69 = .ok (.goto 18, 3) := by decide +kernel
theorem dX12_product_72 : decode cX12_product 72 = .ok (.iload_n 2, 1) := by decide +kernel
theorem dX12_product_73 : decode cX12_product 73 = .ok (.bipush 47, 2) := by decide +kernel
theorem dX12_product_75 : decode cX12_product 75 = .ok (.if_icmp .ne 9, 3) := by decide +kernel
theorem dX12_product_78 : decode cX12_product 78 = .ok (.iload_n 1, 1) := by decide +kernel
theorem dX12_product_79 : decode cX12_product 79 = .ok (.iload_n 3, 1) := by decide +kernel
theorem dX12_product_80 : decode cX12_product 80 = .ok (.idiv, 1) := by decide +kernel
theorem dX12_product_81 : decode cX12_product 81 = .ok (.goto 6, 3) := by decide +kernel
theorem dX12_product_84 : decode cX12_product 84 = .ok (.iload_n 1, 1) := by decide +kernel
theorem dX12_product_85 : decode cX12_product 85 = .ok (.iload_n 3, 1) := by decide +kernel
theorem dX12_product_86 : decode cX12_product 86 = .ok (.irem, 1) := by decide +kernel
theorem dX12_product_87 : decode cX12_product 87 = .ok (.istore_n 1, 1) := by decide +kernel
theorem dX12_product_88 : decode cX12_product 88 = .ok (.goto (-83), 3) := by decide +kernel
theorem dX12_product_91 : decode cX12_product 91 = .ok (.iload_n 1, 1) := by decide +kernel
theorem dX12_product_92 : decode cX12_product 92 = .ok (.ireturn, 1) := by decide +kernel
theorem dX12_unit_0 : decode cX12_unit 0 = .ok (.aload_n 0, 1) := by decide +kernel
theorem dX12_unit_1 : decode cX12_unit 1 = .ok (.invokevirtual 75, 3) := by decide +kernel
theorem dX12_unit_4 : decode cX12_unit 4 = .ok (.istore_n 1, 1) := by decide +kernel
theorem dX12_unit_5 : decode cX12_unit 5 = .ok (.iload_n 1, 1) := by decide +kernel
theorem dX12_unit_6 : decode cX12_unit 6 = .ok (.bipush 33, 2) := by decide +kernel
theorem dX12_unit_8 : decode cX12_unit 8 = .ok (.if_icmp .eq 9, 3) := by decide +kernel
theorem dX12_unit_11 : decode cX12_unit 11 = .ok (.iload_n 1, 1) := by decide +kernel
theorem dX12_unit_12 : decode cX12_unit 12 = .ok (.bipush 40, 2) := by decide +kernel
theorem dX12_unit_14 : decode cX12_unit 14 = .ok (.if_icmp .ne 104, 3) := by decide +kernel
theorem dX12_unit_17 : decode cX12_unit 17 = .ok (.aload_n 0, 1) := by decide +kernel
theorem dX12_unit_18 : decode cX12_unit 18 = .ok (.getfield 102, 3) := by decide +kernel
theorem dX12_unit_21 : decode cX12_unit 21 = .ok (.iconst 5, 1) := by decide +kernel
theorem dX12_unit_22 : decode cX12_unit 22 = .ok (.if_icmp .ne 8, 3) := by decide +kernel
theorem dX12_unit_25 : decode cX12_unit 25 = .ok (.aload_n 0, 1) := by decide +kernel
theorem dX12_unit_26 : decode cX12_unit 26 = .ok (.invokevirtual 105, 3) := by decide +kernel
theorem dX12_unit_29 : decode cX12_unit 29 = .ok (.ireturn, 1) := by decide +kernel
theorem dX12_unit_30 : decode cX12_unit 30 = .ok (.aload_n 0, 1) := by decide +kernel
theorem dX12_unit_31 : decode cX12_unit 31 = .ok (.dup, 1) := by decide +kernel
theorem dX12_unit_32 : decode cX12_unit 32 = .ok (.getfield 102, 3) := by decide +kernel
theorem dX12_unit_35 : decode cX12_unit 35 = .ok (.iconst 1, 1) := by decide +kernel
theorem dX12_unit_36 : decode cX12_unit 36 = .ok (.iadd, 1) := by decide +kernel
theorem dX12_unit_37 : decode cX12_unit 37 = .ok (.putfield 102, 3) := by decide +kernel
theorem dX12_unit_40 : decode cX12_unit 40 = .ok (.aload_n 0, 1) := by decide +kernel
theorem dX12_unit_41 : decode cX12_unit 41 = .ok (.dup, 1) := by decide +kernel
theorem dX12_unit_42 : decode cX12_unit 42 = .ok (.getfield 62, 3) := by decide +kernel
theorem dX12_unit_45 : decode cX12_unit 45 = .ok (.iconst 1, 1) := by decide +kernel
theorem dX12_unit_46 : decode cX12_unit 46 = .ok (.iadd, 1) := by decide +kernel
theorem dX12_unit_47 : decode cX12_unit 47 = .ok (.putfield 62, 3) := by decide +kernel
theorem dX12_unit_50 : decode cX12_unit 50 = .ok (.iload_n 1, 1) := by decide +kernel
theorem dX12_unit_51 : decode cX12_unit 51 = .ok (.bipush 40, 2) := by decide +kernel
theorem dX12_unit_53 : decode cX12_unit 53 = .ok (.if_icmp .ne 10, 3) := by decide +kernel
theorem dX12_unit_56 : decode cX12_unit 56 = .ok (.aload_n 0, 1) := by decide +kernel
theorem dX12_unit_57 : decode cX12_unit 57 = .ok (.invokevirtual 108, 3) := by decide +kernel
theorem dX12_unit_60 : decode cX12_unit 60 = .ok (.goto 7, 3) := by decide +kernel
theorem dX12_unit_63 : decode cX12_unit 63 = .ok (.aload_n 0, 1) := by decide +kernel
theorem dX12_unit_64 : decode cX12_unit 64 = .ok (.invokevirtual 99, 3) := by decide +kernel
theorem dX12_unit_67 : decode cX12_unit 67 = .ok (.istore_n 2, 1) := by decide +kernel
theorem dX12_unit_68 : decode cX12_unit 68 = .ok (.iload_n 1, 1) := by decide +kernel
theorem dX12_unit_69 : decode cX12_unit 69 = .ok (.bipush 40, 2) := by decide +kernel
theorem dX12_unit_71 : decode cX12_unit 71 = .ok (.if_icmp .ne 17, 3) := by decide +kernel
theorem dX12_unit_74 : decode cX12_unit 74 = .ok (.aload_n 0, 1) := by decide +kernel
theorem dX12_unit_75 : decode cX12_unit 75 = .ok (.bipush 41, 2) := by decide +kernel
theorem dX12_unit_77 : decode cX12_unit 77 = .ok (.invokevirtual 86, 3) := by decide +kernel
theorem dX12_unit_80 : decode cX12_unit 80 = .ok (.ifCond .ne 8, 3) := by decide +kernel
theorem dX12_unit_83 : decode cX12_unit 83 = .ok (.aload_n 0, 1) := by decide +kernel
theorem dX12_unit_84 : decode cX12_unit 84 = .ok (.invokevirtual 105, 3) := by decide +kernel
theorem dX12_unit_87 : decode cX12_unit 87 = .ok (.ireturn, 1) := by decide +kernel
theorem dX12_unit_88 : decode cX12_unit 88 = .ok (.aload_n 0, 1) := by decide +kernel
theorem dX12_unit_89 : decode cX12_unit 89 = .ok (.dup, 1) := by decide +kernel
theorem dX12_unit_90 : decode cX12_unit 90 = .ok (.getfield 102, 3) := by decide +kernel
theorem dX12_unit_93 : decode cX12_unit 93 = .ok (.iconst 1, 1) := by decide +kernel
theorem dX12_unit_94 : decode cX12_unit 94 = .ok (.isub, 1) := by decide +kernel
theorem dX12_unit_95 : decode cX12_unit 95 = .ok (.putfield 102, 3) := by decide +kernel
theorem dX12_unit_98 : decode cX12_unit 98 = .ok (.iload_n 1, 1) := by decide +kernel
theorem dX12_unit_99 : decode cX12_unit 99 = .ok (.bipush 40, 2) := by decide +kernel
theorem dX12_unit_101 : decode cX12_unit 101 = .ok (.if_icmp .ne 7, 3) := by decide +kernel
theorem dX12_unit_104 : decode cX12_unit 104 = .ok (.iload_n 2, 1) := by decide +kernel
theorem dX12_unit_105 : decode cX12_unit 105 = .ok (.goto 12, 3) := by decide +kernel
theorem dX12_unit_108 : decode cX12_unit 108 = .ok (.iload_n 2, 1) := by decide +kernel
theorem dX12_unit_109 : decode cX12_unit 109 = .ok (.ifCond .ne 7, 3) := by decide +kernel
theorem dX12_unit_112 : decode cX12_unit 112 = .ok (.iconst 1, 1) := by decide +kernel
theorem dX12_unit_113 : decode cX12_unit 113 = .ok (.goto 4, 3) := by decide +kernel
theorem dX12_unit_116 : decode cX12_unit 116 = .ok (.iconst 0, 1) := by decide +kernel
theorem dX12_unit_117 : decode cX12_unit 117 = .ok (.ireturn, 1) := by decide +kernel
theorem dX12_unit_118 : decode cX12_unit 118 = .ok (.aload_n 0, 1) := by decide +kernel
theorem dX12_unit_119 : decode cX12_unit 119 = .ok (.iload_n 1, 1) := by decide +kernel
theorem dX12_unit_120 : decode cX12_unit 120 = .ok (.invokevirtual 111, 3) := by decide +kernel
theorem dX12_unit_123 : decode cX12_unit 123 = .ok (.istore_n 2, 1) := by decide +kernel
theorem dX12_unit_124 : decode cX12_unit 124 = .ok (.iload_n 2, 1) := by decide +kernel
theorem dX12_unit_125 : decode cX12_unit 125 = .ok (.ifCond .lt 20, 3) := by decide +kernel
theorem dX12_unit_128 : decode cX12_unit 128 = .ok (.aload_n 0, 1) := by decide +kernel
theorem dX12_unit_129 : decode cX12_unit 129 = .ok (.dup, 1) := by decide +kernel
theorem dX12_unit_130 : decode cX12_unit 130 = .ok (.getfield 62, 3) := by decide +kernel
theorem dX12_unit_133 : decode cX12_unit 133 = .ok (.iconst 1, 1) := by decide +kernel
theorem dX12_unit_134 : decode cX12_unit 134 = .ok (.iadd, 1) := by decide +kernel
theorem dX12_unit_135 : decode cX12_unit 135 = .ok (.putfield 62, 3) := by decide +kernel
theorem dX12_unit_138 : decode cX12_unit 138 = .ok (.aload_n 0, 1) := by decide +kernel
theorem dX12_unit_139 : decode cX12_unit 139 = .ok (.getfield 22, 3) := by decide +kernel
theorem dX12_unit_142 : decode cX12_unit 142 = .ok (.iload_n 2, 1) := by decide +kernel
theorem dX12_unit_143 : decode cX12_unit 143 = .ok (.iaload, 1) := by decide +kernel
theorem dX12_unit_144 : decode cX12_unit 144 = .ok (.ireturn, 1) := by decide +kernel
theorem dX12_unit_145 : decode cX12_unit 145 = .ok (.iconst 0, 1) := by decide +kernel
theorem dX12_unit_146 : decode cX12_unit 146 = .ok (.istore_n 3, 1) := by decide +kernel
theorem dX12_unit_147 : decode cX12_unit 147 = .ok (.iconst 0, 1) := by decide +kernel
theorem dX12_unit_148 : decode cX12_unit 148 = .ok (.istore 4, 2) := by decide +kernel
theorem dX12_unit_150 : decode cX12_unit 150 = .ok (.iload 4, 2) := by decide +kernel
theorem dX12_unit_152 : decode cX12_unit 152 = .ok (.iconst 4, 1) := by decide +kernel
theorem dX12_unit_153 : decode cX12_unit 153 = .ok (.if_icmp .ge 49, 3) := by decide +kernel
theorem dX12_unit_156 : decode cX12_unit 156 = .ok (.aload_n 0, 1) := by decide +kernel
theorem dX12_unit_157 : decode cX12_unit 157 = .ok (.invokevirtual 75, 3) := by decide +kernel
theorem dX12_unit_160 : decode cX12_unit 160 = .ok (.i2l, 1) := by decide +kernel
theorem dX12_unit_161 : decode cX12_unit 161 = .ok (.ldc2_w 115, 3) := by decide +kernel
theorem dX12_unit_164 : decode cX12_unit 164 = .ok (.ldc2_w 117, 3) := by decide +kernel
theorem dX12_unit_167 : decode cX12_unit 167 = .ok (.invokestatic 56, 3) := by decide +kernel
theorem dX12_unit_170 : decode cX12_unit 170 = .ok (.ifCond .eq 32, 3) := by decide +kernel
theorem dX12_unit_173 : decode cX12_unit 173 = .ok (.bipush 10, 2) := by decide +kernel
theorem dX12_unit_175 : decode cX12_unit 175 = .ok (.iload_n 3, 1) := by decide +kernel
theorem dX12_unit_176 : decode cX12_unit 176 = .ok (.imul, 1) := by decide +kernel
theorem dX12_unit_177 : decode cX12_unit 177 = .ok (.aload_n 0, 1) := by decide +kernel
theorem dX12_unit_178 : decode cX12_unit 178 = .ok (.invokevirtual 75, 3) := by decide +kernel
theorem dX12_unit_181 : decode cX12_unit 181 = .ok (.iadd, 1) := by decide +kernel
theorem dX12_unit_182 : decode cX12_unit 182 = .ok (.bipush 48, 2) := by decide +kernel
theorem dX12_unit_184 : decode cX12_unit 184 = .ok (.isub, 1) := by decide +kernel
theorem dX12_unit_185 : decode cX12_unit 185 = .ok (.istore_n 3, 1) := by decide +kernel
theorem dX12_unit_186 : decode cX12_unit 186 = .ok (.aload_n 0, 1) := by decide +kernel
theorem dX12_unit_187 : decode cX12_unit 187 = .ok (.dup, 1) := by decide +kernel
theorem dX12_unit_188 : decode cX12_unit 188 = .ok (.getfield 62, 3) := by decide +kernel
theorem dX12_unit_191 : decode cX12_unit 191 = .ok (.iconst 1, 1) := by decide +kernel
theorem dX12_unit_192 : decode cX12_unit 192 = .ok (.iadd, 1) := by decide +kernel
theorem dX12_unit_193 : decode cX12_unit 193 = .ok (.putfield 62, 3) := by decide +kernel
theorem dX12_unit_196 : decode cX12_unit 196 = .ok (.iinc 4 1, 3) := by decide +kernel
theorem dX12_unit_199 : decode cX12_unit 199 = .ok (.goto (-49), 3) := by decide +kernel
theorem dX12_unit_202 : decode cX12_unit 202 = .ok (.iload 4, 2) := by decide +kernel
theorem dX12_unit_204 : decode cX12_unit 204 = .ok (.ifCond .ne 10, 3) := by decide +kernel
theorem dX12_unit_207 : decode cX12_unit 207 = .ok (.aload_n 0, 1) := by decide +kernel
theorem dX12_unit_208 : decode cX12_unit 208 = .ok (.invokevirtual 105, 3) := by decide +kernel
theorem dX12_unit_211 : decode cX12_unit 211 = .ok (.goto 4, 3) := by decide +kernel
theorem dX12_unit_214 : decode cX12_unit 214 = .ok (.iload_n 3, 1) := by decide +kernel
theorem dX12_unit_215 : decode cX12_unit 215 = .ok (.ireturn, 1) := by decide +kernel
theorem dX12_worked_0 : decode cX12_worked 0 = .ok (.aload_n 0, 1) := by decide +kernel
theorem dX12_worked_1 : decode cX12_worked 1 = .ok (.iload_n 1, 1) := by decide +kernel
theorem dX12_worked_2 : decode cX12_worked 2 = .ok (.putfield 72, 3) := by decide +kernel
theorem dX12_worked_5 : decode cX12_worked 5 = .ok (.aload_n 0, 1) := by decide +kernel
theorem dX12_worked_6 : decode cX12_worked 6 = .ok (.iconst 0, 1) := by decide +kernel
theorem dX12_worked_7 : decode cX12_worked 7 = .ok (.putfield 62, 3) := by decide +kernel
theorem dX12_worked_10 : decode cX12_worked 10 = .ok (.aload_n 0, 1) := by decide +kernel
theorem dX12_worked_11 : decode cX12_worked 11 = .ok (.iload_n 2, 1) := by decide +kernel
theorem dX12_worked_12 : decode cX12_worked 12 = .ok (.putfield 66, 3) := by decide +kernel
theorem dX12_worked_15 : decode cX12_worked 15 = .ok (.aload_n 0, 1) := by decide +kernel
theorem dX12_worked_16 : decode cX12_worked 16 = .ok (.iconst (-1), 1) := by decide +kernel
theorem dX12_worked_17 : decode cX12_worked 17 = .ok (.putfield 69, 3) := by decide +kernel
theorem dX12_worked_20 : decode cX12_worked 20 = .ok (.aload_n 0, 1) := by decide +kernel
theorem dX12_worked_21 : decode cX12_worked 21 = .ok (.iconst 0, 1) := by decide +kernel
theorem dX12_worked_22 : decode cX12_worked 22 = .ok (.putfield 102, 3) := by decide +kernel
theorem dX12_worked_25 : decode cX12_worked 25 = .ok (.aload_n 0, 1) := by decide +kernel
theorem dX12_worked_26 : decode cX12_worked 26 = .ok (.iload_n 3, 1) := by decide +kernel
theorem dX12_worked_27 : decode cX12_worked 27 = .ok (.iconst 1, 1) := by decide +kernel
theorem dX12_worked_28 : decode cX12_worked 28 = .ok (.if_icmp .ne 7, 3) := by decide +kernel
theorem dX12_worked_31 : decode cX12_worked 31 = .ok (.iconst 1, 1) := by decide +kernel
theorem dX12_worked_32 : decode cX12_worked 32 = .ok (.goto 4, 3) := by decide +kernel
theorem dX12_worked_35 : decode cX12_worked 35 = .ok (.iconst 0, 1) := by decide +kernel
theorem dX12_worked_36 : decode cX12_worked 36 = .ok (.putfield 79, 3) := by decide +kernel
theorem dX12_worked_39 : decode cX12_worked 39 = .ok (.aload_n 0, 1) := by decide +kernel
theorem dX12_worked_40 : decode cX12_worked 40 = .ok (.invokevirtual 108, 3) := by decide +kernel
theorem dX12_worked_43 : decode cX12_worked 43 = .ok (.istore 4, 2) := by decide +kernel
theorem dX12_worked_45 : decode cX12_worked 45 = .ok (.aload_n 0, 1) := by decide +kernel
theorem dX12_worked_46 : decode cX12_worked 46 = .ok (.getfield 69, 3) := by decide +kernel
theorem dX12_worked_49 : decode cX12_worked 49 = .ok (.ifCond .ge 19, 3) := by decide +kernel
theorem dX12_worked_52 : decode cX12_worked 52 = .ok (.aload_n 0, 1) := by decide +kernel
theorem dX12_worked_53 : decode cX12_worked 53 = .ok (.getfield 62, 3) := by decide +kernel
theorem dX12_worked_56 : decode cX12_worked 56 = .ok (.aload_n 0, 1) := by decide +kernel
theorem dX12_worked_57 : decode cX12_worked 57 = .ok (.getfield 66, 3) := by decide +kernel
theorem dX12_worked_60 : decode cX12_worked 60 = .ok (.if_icmp .ge 8, 3) := by decide +kernel
theorem dX12_worked_63 : decode cX12_worked 63 = .ok (.aload_n 0, 1) := by decide +kernel
theorem dX12_worked_64 : decode cX12_worked 64 = .ok (.invokevirtual 105, 3) := by decide +kernel
theorem dX12_worked_67 : decode cX12_worked 67 = .ok (.ireturn, 1) := by decide +kernel
theorem dX12_worked_68 : decode cX12_worked 68 = .ok (.iload 4, 2) := by decide +kernel
