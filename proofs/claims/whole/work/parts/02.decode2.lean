theorem dX12_worked_70 : decode cX12_worked 70 = .ok (.ireturn, 1) := by decide +kernel
theorem dX12_feed_0 : decode cX12_feed 0 = .ok (.iload_n 3, 1) := by decide +kernel
theorem dX12_feed_1 : decode cX12_feed 1 = .ok (.i2l, 1) := by decide +kernel
theorem dX12_feed_2 : decode cX12_feed 2 = .ok (.lconst 1, 1) := by decide +kernel
theorem dX12_feed_3 : decode cX12_feed 3 = .ok (.ldc2_w 119, 3) := by decide +kernel
theorem dX12_feed_6 : decode cX12_feed 6 = .ok (.invokestatic 56, 3) := by decide +kernel
theorem dX12_feed_9 : decode cX12_feed 9 = .ok (.ifCond .ne 9, 3) := by decide +kernel
theorem dX12_feed_12 : decode cX12_feed 12 = .ok (.aload_n 0, 1) := by decide +kernel
theorem dX12_feed_13 : decode cX12_feed 13 = .ok (.iconst 1, 1) := by decide +kernel
theorem dX12_feed_14 : decode cX12_feed 14 = .ok (.invokevirtual 121, 3) := by decide +kernel
theorem dX12_feed_17 : decode cX12_feed 17 = .ok (.ireturn, 1) := by decide +kernel
theorem dX12_feed_18 : decode cX12_feed 18 = .ok (.aload_n 0, 1) := by decide +kernel
theorem dX12_feed_19 : decode cX12_feed 19 = .ok (.getfield 7, 3) := by decide +kernel
theorem dX12_feed_22 : decode cX12_feed 22 = .ok (.bipush 8, 2) := by decide +kernel
theorem dX12_feed_24 : decode cX12_feed 24 = .ok (.iaload, 1) := by decide +kernel
theorem dX12_feed_25 : decode cX12_feed 25 = .ok (.iload_n 3, 1) := by decide +kernel
theorem dX12_feed_26 : decode cX12_feed 26 = .ok (.iadd, 1) := by decide +kernel
theorem dX12_feed_27 : decode cX12_feed 27 = .ok (.bipush 50, 2) := by decide +kernel
theorem dX12_feed_29 : decode cX12_feed 29 = .ok (.if_icmp .le 9, 3) := by decide +kernel
theorem dX12_feed_32 : decode cX12_feed 32 = .ok (.aload_n 0, 1) := by decide +kernel
theorem dX12_feed_33 : decode cX12_feed 33 = .ok (.iconst 4, 1) := by decide +kernel
theorem dX12_feed_34 : decode cX12_feed 34 = .ok (.invokevirtual 121, 3) := by decide +kernel
theorem dX12_feed_37 : decode cX12_feed 37 = .ok (.ireturn, 1) := by decide +kernel
theorem dX12_feed_38 : decode cX12_feed 38 = .ok (.iconst 0, 1) := by decide +kernel
theorem dX12_feed_39 : decode cX12_feed 39 = .ok (.istore 4, 2) := by decide +kernel
theorem dX12_feed_41 : decode cX12_feed 41 = .ok (.iload 4, 2) := by decide +kernel
theorem dX12_feed_43 : decode cX12_feed 43 = .ok (.iload_n 3, 1) := by decide +kernel
theorem dX12_feed_44 : decode cX12_feed 44 = .ok (.if_icmp .ge 48, 3) := by decide +kernel
theorem dX12_feed_47 : decode cX12_feed 47 = .ok (.aload_n 0, 1) := by decide +kernel
theorem dX12_feed_48 : decode cX12_feed 48 = .ok (.getfield 7, 3) := by decide +kernel
theorem dX12_feed_51 : decode cX12_feed 51 = .ok (.sipush 438, 3) := by decide +kernel
theorem dX12_feed_54 : decode cX12_feed 54 = .ok (.aload_n 0, 1) := by decide +kernel
theorem dX12_feed_55 : decode cX12_feed 55 = .ok (.getfield 7, 3) := by decide +kernel
theorem dX12_feed_58 : decode cX12_feed 58 = .ok (.bipush 8, 2) := by decide +kernel
theorem dX12_feed_60 : decode cX12_feed 60 = .ok (.iaload, 1) := by decide +kernel
theorem dX12_feed_61 : decode cX12_feed 61 = .ok (.iadd, 1) := by decide +kernel
theorem dX12_feed_62 : decode cX12_feed 62 = .ok (.lload_n 1, 1) := by decide +kernel
theorem dX12_feed_63 : decode cX12_feed 63 = .ok (.bipush 8, 2) := by decide +kernel
theorem dX12_feed_65 : decode cX12_feed 65 = .ok (.iload 4, 2) := by decide +kernel
theorem dX12_feed_67 : decode cX12_feed 67 = .ok (.imul, 1) := by decide +kernel
theorem dX12_feed_68 : decode cX12_feed 68 = .ok (.lshr, 1) := by decide +kernel
theorem dX12_feed_69 : decode cX12_feed 69 = .ok (.ldc2_w 124, 3) := by decide +kernel
theorem dX12_feed_72 : decode cX12_feed 72 = .ok (.land, 1) := by decide +kernel
theorem dX12_feed_73 : decode cX12_feed 73 = .ok (.l2i, 1) := by decide +kernel
theorem dX12_feed_74 : decode cX12_feed 74 = .ok (.iastore, 1) := by decide +kernel
theorem dX12_feed_75 : decode cX12_feed 75 = .ok (.aload_n 0, 1) := by decide +kernel
theorem dX12_feed_76 : decode cX12_feed 76 = .ok (.getfield 7, 3) := by decide +kernel
theorem dX12_feed_79 : decode cX12_feed 79 = .ok (.bipush 8, 2) := by decide +kernel
theorem dX12_feed_81 : decode cX12_feed 81 = .ok (.dup2, 1) := by decide +kernel
theorem dX12_feed_82 : decode cX12_feed 82 = .ok (.iaload, 1) := by decide +kernel
theorem dX12_feed_83 : decode cX12_feed 83 = .ok (.iconst 1, 1) := by decide +kernel
theorem dX12_feed_84 : decode cX12_feed 84 = .ok (.iadd, 1) := by decide +kernel
theorem dX12_feed_85 : decode cX12_feed 85 = .ok (.iastore, 1) := by decide +kernel
theorem dX12_feed_86 : decode cX12_feed 86 = .ok (.iinc 4 1, 3) := by decide +kernel
theorem dX12_feed_89 : decode cX12_feed 89 = .ok (.goto (-48), 3) := by decide +kernel
theorem dX12_feed_92 : decode cX12_feed 92 = .ok (.aload_n 0, 1) := by decide +kernel
theorem dX12_feed_93 : decode cX12_feed 93 = .ok (.getfield 7, 3) := by decide +kernel
theorem dX12_feed_96 : decode cX12_feed 96 = .ok (.bipush 8, 2) := by decide +kernel
theorem dX12_feed_98 : decode cX12_feed 98 = .ok (.iaload, 1) := by decide +kernel
theorem dX12_feed_99 : decode cX12_feed 99 = .ok (.ireturn, 1) := by decide +kernel
theorem dX12_text_0 : decode cX12_text 0 = .ok (.iload_n 1, 1) := by decide +kernel
theorem dX12_text_1 : decode cX12_text 1 = .ok (.i2l, 1) := by decide +kernel
theorem dX12_text_2 : decode cX12_text 2 = .ok (.lconst 0, 1) := by decide +kernel
theorem dX12_text_3 : decode cX12_text 3 = .ok (.lconst 1, 1) := by decide +kernel
theorem dX12_text_4 : decode cX12_text 4 = .ok (.invokestatic 56, 3) := by decide +kernel
theorem dX12_text_7 : decode cX12_text 7 = .ok (.ifCond .ne 9, 3) := by decide +kernel
theorem dX12_text_10 : decode cX12_text 10 = .ok (.aload_n 0, 1) := by decide +kernel
theorem dX12_text_11 : decode cX12_text 11 = .ok (.iconst 1, 1) := by decide +kernel
theorem dX12_text_12 : decode cX12_text 12 = .ok (.invokevirtual 121, 3) := by decide +kernel
theorem dX12_text_15 : decode cX12_text 15 = .ok (.ireturn, 1) := by decide +kernel
theorem dX12_text_16 : decode cX12_text 16 = .ok (.aload_n 0, 1) := by decide +kernel
theorem dX12_text_17 : decode cX12_text 17 = .ok (.getfield 7, 3) := by decide +kernel
theorem dX12_text_20 : decode cX12_text 20 = .ok (.bipush 8, 2) := by decide +kernel
theorem dX12_text_22 : decode cX12_text 22 = .ok (.iaload, 1) := by decide +kernel
theorem dX12_text_23 : decode cX12_text 23 = .ok (.istore_n 2, 1) := by decide +kernel
theorem dX12_text_24 : decode cX12_text 24 = .ok (.aload_n 0, 1) := by decide +kernel
theorem dX12_text_25 : decode cX12_text 25 = .ok (.getfield 7, 3) := by decide +kernel
theorem dX12_text_28 : decode cX12_text 28 = .ok (.bipush 8, 2) := by decide +kernel
theorem dX12_text_30 : decode cX12_text 30 = .ok (.iconst 0, 1) := by decide +kernel
theorem dX12_text_31 : decode cX12_text 31 = .ok (.iastore, 1) := by decide +kernel
theorem dX12_text_32 : decode cX12_text 32 = .ok (.aload_n 0, 1) := by decide +kernel
theorem dX12_text_33 : decode cX12_text 33 = .ok (.sipush 438, 3) := by decide +kernel
theorem dX12_text_36 : decode cX12_text 36 = .ok (.iload_n 2, 1) := by decide +kernel
theorem dX12_text_37 : decode cX12_text 37 = .ok (.iload_n 1, 1) := by decide +kernel
theorem dX12_text_38 : decode cX12_text 38 = .ok (.invokevirtual 126, 3) := by decide +kernel
theorem dX12_text_41 : decode cX12_text 41 = .ok (.istore_n 3, 1) := by decide +kernel
theorem dX12_text_42 : decode cX12_text 42 = .ok (.aload_n 0, 1) := by decide +kernel
theorem dX12_text_43 : decode cX12_text 43 = .ok (.getfield 69, 3) := by decide +kernel
theorem dX12_text_46 : decode cX12_text 46 = .ok (.ifCond .lt 11, 3) := by decide +kernel
theorem dX12_text_49 : decode cX12_text 49 = .ok (.bipush (-10), 2) := by decide +kernel
theorem dX12_text_51 : decode cX12_text 51 = .ok (.aload_n 0, 1) := by decide +kernel
theorem dX12_text_52 : decode cX12_text 52 = .ok (.getfield 69, 3) := by decide +kernel
theorem dX12_text_55 : decode cX12_text 55 = .ok (.isub, 1) := by decide +kernel
theorem dX12_text_56 : decode cX12_text 56 = .ok (.ireturn, 1) := by decide +kernel
theorem dX12_text_57 : decode cX12_text 57 = .ok (.aload_n 0, 1) := by decide +kernel
theorem dX12_text_58 : decode cX12_text 58 = .ok (.getfield 7, 3) := by decide +kernel
theorem dX12_text_61 : decode cX12_text 61 = .ok (.sipush 316, 3) := by decide +kernel
theorem dX12_text_64 : decode cX12_text 64 = .ok (.iload_n 1, 1) := by decide +kernel
theorem dX12_text_65 : decode cX12_text 65 = .ok (.iadd, 1) := by decide +kernel
theorem dX12_text_66 : decode cX12_text 66 = .ok (.iload_n 2, 1) := by decide +kernel
theorem dX12_text_67 : decode cX12_text 67 = .ok (.iastore, 1) := by decide +kernel
theorem dX12_text_68 : decode cX12_text 68 = .ok (.iconst 0, 1) := by decide +kernel
theorem dX12_text_69 : decode cX12_text 69 = .ok (.istore 4, 2) := by decide +kernel
theorem dX12_text_71 : decode cX12_text 71 = .ok (.iload 4, 2) := by decide +kernel
theorem dX12_text_73 : decode cX12_text 73 = .ok (.iload_n 2, 1) := by decide +kernel
theorem dX12_text_74 : decode cX12_text 74 = .ok (.if_icmp .ge 36, 3) := by decide +kernel
theorem dX12_text_77 : decode cX12_text 77 = .ok (.aload_n 0, 1) := by decide +kernel
theorem dX12_text_78 : decode cX12_text 78 = .ok (.getfield 7, 3) := by decide +kernel
theorem dX12_text_81 : decode cX12_text 81 = .ok (.sipush 338, 3) := by decide +kernel
theorem dX12_text_84 : decode cX12_text 84 = .ok (.bipush 50, 2) := by decide +kernel
theorem dX12_text_86 : decode cX12_text 86 = .ok (.iload_n 1, 1) := by decide +kernel
theorem dX12_text_87 : decode cX12_text 87 = .ok (.imul, 1) := by decide +kernel
theorem dX12_text_88 : decode cX12_text 88 = .ok (.iadd, 1) := by decide +kernel
theorem dX12_text_89 : decode cX12_text 89 = .ok (.iload 4, 2) := by decide +kernel
theorem dX12_text_91 : decode cX12_text 91 = .ok (.iadd, 1) := by decide +kernel
theorem dX12_text_92 : decode cX12_text 92 = .ok (.aload_n 0, 1) := by decide +kernel
theorem dX12_text_93 : decode cX12_text 93 = .ok (.getfield 7, 3) := by decide +kernel
theorem dX12_text_96 : decode cX12_text 96 = .ok (.sipush 438, 3) := by decide +kernel
theorem dX12_text_99 : decode cX12_text 99 = .ok (.iload 4, 2) := by decide +kernel
theorem dX12_text_101 : decode cX12_text 101 = .ok (.iadd, 1) := by decide +kernel
theorem dX12_text_102 : decode cX12_text 102 = .ok (.iaload, 1) := by decide +kernel
theorem dX12_text_103 : decode cX12_text 103 = .ok (.iastore, 1) := by decide +kernel
theorem dX12_text_104 : decode cX12_text 104 = .ok (.iinc 4 1, 3) := by decide +kernel
theorem dX12_text_107 : decode cX12_text 107 = .ok (.goto (-36), 3) := by decide +kernel
theorem dX12_text_110 : decode cX12_text 110 = .ok (.iconst 1, 1) := by decide +kernel
theorem dX12_text_111 : decode cX12_text 111 = .ok (.ireturn, 1) := by decide +kernel
theorem dX12_gives_0 : decode cX12_gives 0 = .ok (.iload_n 1, 1) := by decide +kernel
theorem dX12_gives_1 : decode cX12_gives 1 = .ok (.ifCond .ne 7, 3) := by decide +kernel
theorem dX12_gives_4 : decode cX12_gives 4 = .ok (.iconst 0, 1) := by decide +kernel
theorem dX12_gives_5 : decode cX12_gives 5 = .ok (.goto 6, 3) := by decide +kernel
theorem dX12_gives_8 : decode cX12_gives 8 = .ok (.iload_n 2, 1) := by decide +kernel
theorem dX12_gives_9 : decode cX12_gives 9 = .ok (.iconst 1, 1) := by decide +kernel
theorem dX12_gives_10 : decode cX12_gives 10 = .ok (.iadd, 1) := by decide +kernel
theorem dX12_gives_11 : decode cX12_gives 11 = .ok (.istore 6, 2) := by decide +kernel
theorem dX12_gives_13 : decode cX12_gives 13 = .ok (.aload_n 0, 1) := by decide +kernel
theorem dX12_gives_14 : decode cX12_gives 14 = .ok (.getfield 7, 3) := by decide +kernel
theorem dX12_gives_17 : decode cX12_gives 17 = .ok (.sipush 316, 3) := by decide +kernel
theorem dX12_gives_20 : decode cX12_gives 20 = .ok (.iload_n 1, 1) := by decide +kernel
theorem dX12_gives_21 : decode cX12_gives 21 = .ok (.iadd, 1) := by decide +kernel
theorem dX12_gives_22 : decode cX12_gives 22 = .ok (.iaload, 1) := by decide +kernel
theorem dX12_gives_23 : decode cX12_gives 23 = .ok (.ifCond .le 58, 3) := by decide +kernel
theorem dX12_gives_26 : decode cX12_gives 26 = .ok (.aload_n 0, 1) := by decide +kernel
theorem dX12_gives_27 : decode cX12_gives 27 = .ok (.getfield 22, 3) := by decide +kernel
theorem dX12_gives_30 : decode cX12_gives 30 = .ok (.iconst 0, 1) := by decide +kernel
theorem dX12_gives_31 : decode cX12_gives 31 = .ok (.iload_n 2, 1) := by decide +kernel
theorem dX12_gives_32 : decode cX12_gives 32 = .ok (.iastore, 1) := by decide +kernel
theorem dX12_gives_33 : decode cX12_gives 33 = .ok (.aload_n 0, 1) := by decide +kernel
theorem dX12_gives_34 : decode cX12_gives 34 = .ok (.getfield 22, 3) := by decide +kernel
theorem dX12_gives_37 : decode cX12_gives 37 = .ok (.iconst 1, 1) := by decide +kernel
theorem dX12_gives_38 : decode cX12_gives 38 = .ok (.iload_n 3, 1) := by decide +kernel
theorem dX12_gives_39 : decode cX12_gives 39 = .ok (.iastore, 1) := by decide +kernel
theorem dX12_gives_40 : decode cX12_gives 40 = .ok (.aload_n 0, 1) := by decide +kernel
theorem dX12_gives_41 : decode cX12_gives 41 = .ok (.getfield 22, 3) := by decide +kernel
theorem dX12_gives_44 : decode cX12_gives 44 = .ok (.iconst 2, 1) := by decide +kernel
theorem dX12_gives_45 : decode cX12_gives 45 = .ok (.iload 4, 2) := by decide +kernel
theorem dX12_gives_47 : decode cX12_gives 47 = .ok (.iastore, 1) := by decide +kernel
theorem dX12_gives_48 : decode cX12_gives 48 = .ok (.aload_n 0, 1) := by decide +kernel
theorem dX12_gives_49 : decode cX12_gives 49 = .ok (.getfield 22, 3) := by decide +kernel
theorem dX12_gives_52 : decode cX12_gives 52 = .ok (.iconst 3, 1) := by decide +kernel
theorem dX12_gives_53 : decode cX12_gives 53 = .ok (.iload 5, 2) := by decide +kernel
theorem dX12_gives_55 : decode cX12_gives 55 = .ok (.iastore, 1) := by decide +kernel
theorem dX12_gives_56 : decode cX12_gives 56 = .ok (.aload_n 0, 1) := by decide +kernel
theorem dX12_gives_57 : decode cX12_gives 57 = .ok (.sipush 338, 3) := by decide +kernel
theorem dX12_gives_60 : decode cX12_gives 60 = .ok (.bipush 50, 2) := by decide +kernel
theorem dX12_gives_62 : decode cX12_gives 62 = .ok (.iload_n 1, 1) := by decide +kernel
theorem dX12_gives_63 : decode cX12_gives 63 = .ok (.imul, 1) := by decide +kernel
theorem dX12_gives_64 : decode cX12_gives 64 = .ok (.iadd, 1) := by decide +kernel
theorem dX12_gives_65 : decode cX12_gives 65 = .ok (.aload_n 0, 1) := by decide +kernel
theorem dX12_gives_66 : decode cX12_gives 66 = .ok (.getfield 7, 3) := by decide +kernel
theorem dX12_gives_69 : decode cX12_gives 69 = .ok (.sipush 316, 3) := by decide +kernel
theorem dX12_gives_72 : decode cX12_gives 72 = .ok (.iload_n 1, 1) := by decide +kernel
theorem dX12_gives_73 : decode cX12_gives 73 = .ok (.iadd, 1) := by decide +kernel
theorem dX12_gives_74 : decode cX12_gives 74 = .ok (.iaload, 1) := by decide +kernel
theorem dX12_gives_75 : decode cX12_gives 75 = .ok (.iload_n 1, 1) := by decide +kernel
theorem dX12_gives_76 : decode cX12_gives 76 = .ok (.invokevirtual 126, 3) := by decide +kernel
theorem dX12_gives_79 : decode cX12_gives 79 = .ok (.istore 6, 2) := by decide +kernel
theorem dX12_gives_81 : decode cX12_gives 81 = .ok (.iload_n 1, 1) := by decide +kernel
theorem dX12_gives_82 : decode cX12_gives 82 = .ok (.ifCond .ne 15, 3) := by decide +kernel
theorem dX12_gives_85 : decode cX12_gives 85 = .ok (.iload 6, 2) := by decide +kernel
theorem dX12_gives_87 : decode cX12_gives 87 = .ok (.bipush (-10), 2) := by decide +kernel
theorem dX12_gives_89 : decode cX12_gives 89 = .ok (.bipush 10, 2) := by decide +kernel
theorem dX12_gives_91 : decode cX12_gives 91 = .ok (.invokestatic 130, 3) := by decide +kernel
theorem dX12_gives_94 : decode cX12_gives 94 = .ok (.goto 14, 3) := by decide +kernel
theorem dX12_gives_97 : decode cX12_gives 97 = .ok (.iload 6, 2) := by decide +kernel
theorem dX12_gives_99 : decode cX12_gives 99 = .ok (.bipush 40, 2) := by decide +kernel
theorem dX12_gives_101 : decode cX12_gives 101 = .ok (.irem, 1) := by decide +kernel
theorem dX12_gives_102 : decode cX12_gives 102 = .ok (.iconst 0, 1) := by decide +kernel
theorem dX12_gives_103 : decode cX12_gives 103 = .ok (.bipush 39, 2) := by decide +kernel
theorem dX12_gives_105 : decode cX12_gives 105 = .ok (.invokestatic 130, 3) := by decide +kernel
theorem dX12_gives_108 : decode cX12_gives 108 = .ok (.ireturn, 1) := by decide +kernel
theorem dX12_law_0 : decode cX12_law 0 = .ok (.iload_n 1, 1) := by decide +kernel
theorem dX12_law_1 : decode cX12_law 1 = .ok (.i2l, 1) := by decide +kernel
theorem dX12_law_2 : decode cX12_law 2 = .ok (.lconst 0, 1) := by decide +kernel
theorem dX12_law_3 : decode cX12_law 3 = .ok (.lconst 1, 1) := by decide +kernel
theorem dX12_law_4 : decode cX12_law 4 = .ok (.invokestatic 56, 3) := by decide +kernel
theorem dX12_law_7 : decode cX12_law 7 = .ok (.ifCond .eq 17, 3) := by decide +kernel
theorem dX12_law_10 : decode cX12_law 10 = .ok (.aload_n 0, 1) := by decide +kernel
theorem dX12_law_11 : decode cX12_law 11 = .ok (.iload_n 1, 1) := by decide +kernel
theorem dX12_law_12 : decode cX12_law 12 = .ok (.iload_n 2, 1) := by decide +kernel
theorem dX12_law_13 : decode cX12_law 13 = .ok (.iload_n 3, 1) := by decide +kernel
theorem dX12_law_14 : decode cX12_law 14 = .ok (.iload 4, 2) := by decide +kernel
theorem dX12_law_16 : decode cX12_law 16 = .ok (.iload 5, 2) := by decide +kernel
theorem dX12_law_18 : decode cX12_law 18 = .ok (.invokevirtual 133, 3) := by decide +kernel
theorem dX12_law_21 : decode cX12_law 21 = .ok (.goto 8, 3) := by decide +kernel
theorem dX12_law_24 : decode cX12_law 24 = .ok (.aload_n 0, 1) := by decide +kernel
theorem dX12_law_25 : decode cX12_law 25 = .ok (.iconst 1, 1) := by decide +kernel
theorem dX12_law_26 : decode cX12_law 26 = .ok (.invokevirtual 121, 3) := by decide +kernel
theorem dX12_law_29 : decode cX12_law 29 = .ok (.ireturn, 1) := by decide +kernel
theorem dX12_air_0 : decode cX12_air 0 = .ok (.iload_n 1, 1) := by decide +kernel
theorem dX12_air_1 : decode cX12_air 1 = .ok (.i2l, 1) := by decide +kernel
theorem dX12_air_2 : decode cX12_air 2 = .ok (.lconst 0, 1) := by decide +kernel
theorem dX12_air_3 : decode cX12_air 3 = .ok (.ldc2_w 137, 3) := by decide +kernel
theorem dX12_air_6 : decode cX12_air 6 = .ok (.invokestatic 56, 3) := by decide +kernel
theorem dX12_air_9 : decode cX12_air 9 = .ok (.ifCond .eq 34, 3) := by decide +kernel
theorem dX12_air_12 : decode cX12_air 12 = .ok (.iload_n 1, 1) := by decide +kernel
theorem dX12_air_13 : decode cX12_air 13 = .ok (.ifCond .ne 18, 3) := by decide +kernel
theorem dX12_air_16 : decode cX12_air 16 = .ok (.iload_n 2, 1) := by decide +kernel
theorem dX12_air_17 : decode cX12_air 17 = .ok (.i2l, 1) := by decide +kernel
theorem dX12_air_18 : decode cX12_air 18 = .ok (.lconst 1, 1) := by decide +kernel
theorem dX12_air_19 : decode cX12_air 19 = .ok (.ldc2_w 139, 3) := by decide +kernel
theorem dX12_air_22 : decode cX12_air 22 = .ok (.invokestatic 56, 3) := by decide +kernel
theorem dX12_air_25 : decode cX12_air 25 = .ok (.ifCond .eq 18, 3) := by decide +kernel
theorem dX12_air_28 : decode cX12_air 28 = .ok (.goto 21, 3) := by decide +kernel
theorem dX12_air_31 : decode cX12_air 31 = .ok (.iload_n 2, 1) := by decide +kernel
theorem dX12_air_32 : decode cX12_air 32 = .ok (.i2l, 1) := by decide +kernel
theorem dX12_air_33 : decode cX12_air 33 = .ok (.lconst 0, 1) := by decide +kernel
theorem dX12_air_34 : decode cX12_air 34 = .ok (.ldc2_w 141, 3) := by decide +kernel
theorem dX12_air_37 : decode cX12_air 37 = .ok (.invokestatic 56, 3) := by decide +kernel
theorem dX12_air_40 : decode cX12_air 40 = .ok (.ifCond .ne 9, 3) := by decide +kernel
theorem dX12_air_43 : decode cX12_air 43 = .ok (.aload_n 0, 1) := by decide +kernel
theorem dX12_air_44 : decode cX12_air 44 = .ok (.iconst 1, 1) := by decide +kernel
theorem dX12_air_45 : decode cX12_air 45 = .ok (.invokevirtual 121, 3) := by decide +kernel
theorem dX12_air_48 : decode cX12_air 48 = .ok (.ireturn, 1) := by decide +kernel
theorem dX12_air_49 : decode cX12_air 49 = .ok (.aload_n 0, 1) := by decide +kernel
theorem dX12_air_50 : decode cX12_air 50 = .ok (.getfield 7, 3) := by decide +kernel
theorem dX12_air_53 : decode cX12_air 53 = .ok (.iload_n 1, 1) := by decide +kernel
theorem dX12_air_54 : decode cX12_air 54 = .ok (.iaload, 1) := by decide +kernel
theorem dX12_air_55 : decode cX12_air 55 = .ok (.istore_n 3, 1) := by decide +kernel
theorem dX12_air_56 : decode cX12_air 56 = .ok (.aload_n 0, 1) := by decide +kernel
theorem dX12_air_57 : decode cX12_air 57 = .ok (.getfield 7, 3) := by decide +kernel
theorem dX12_air_60 : decode cX12_air 60 = .ok (.iload_n 1, 1) := by decide +kernel
theorem dX12_air_61 : decode cX12_air 61 = .ok (.iload_n 2, 1) := by decide +kernel
theorem dX12_air_62 : decode cX12_air 62 = .ok (.iastore, 1) := by decide +kernel
theorem dX12_air_63 : decode cX12_air 63 = .ok (.iload_n 3, 1) := by decide +kernel
theorem dX12_air_64 : decode cX12_air 64 = .ok (.ireturn, 1) := by decide +kernel
theorem dX12_person_0 : decode cX12_person 0 = .ok (.iload_n 1, 1) := by decide +kernel
theorem dX12_person_1 : decode cX12_person 1 = .ok (.i2l, 1) := by decide +kernel
theorem dX12_person_2 : decode cX12_person 2 = .ok (.lconst 0, 1) := by decide +kernel
theorem dX12_person_3 : decode cX12_person 3 = .ok (.ldc2_w 143, 3) := by decide +kernel
theorem dX12_person_6 : decode cX12_person 6 = .ok (.invokestatic 56, 3) := by decide +kernel
theorem dX12_person_9 : decode cX12_person 9 = .ok (.ifCond .eq 13, 3) := by decide +kernel
theorem dX12_person_12 : decode cX12_person 12 = .ok (.iload_n 2, 1) := by decide +kernel
theorem dX12_person_13 : decode cX12_person 13 = .ok (.i2l, 1) := by decide +kernel
theorem dX12_person_14 : decode cX12_person 14 = .ok (.lconst 0, 1) := by decide +kernel
theorem dX12_person_15 : decode cX12_person 15 = .ok (.lconst 1, 1) := by decide +kernel
theorem dX12_person_16 : decode cX12_person 16 = .ok (.invokestatic 56, 3) := by decide +kernel
theorem dX12_person_19 : decode cX12_person 19 = .ok (.ifCond .ne 9, 3) := by decide +kernel
theorem dX12_person_22 : decode cX12_person 22 = .ok (.aload_n 0, 1) := by decide +kernel
theorem dX12_person_23 : decode cX12_person 23 = .ok (.iconst 1, 1) := by decide +kernel
theorem dX12_person_24 : decode cX12_person 24 = .ok (.invokevirtual 121, 3) := by decide +kernel
theorem dX12_person_27 : decode cX12_person 27 = .ok (.ireturn, 1) := by decide +kernel
theorem dX12_person_28 : decode cX12_person 28 = .ok (.aload_n 0, 1) := by decide +kernel
theorem dX12_person_29 : decode cX12_person 29 = .ok (.getfield 7, 3) := by decide +kernel
theorem dX12_person_32 : decode cX12_person 32 = .ok (.iconst 4, 1) := by decide +kernel
theorem dX12_person_33 : decode cX12_person 33 = .ok (.iaload, 1) := by decide +kernel
theorem dX12_person_34 : decode cX12_person 34 = .ok (.bipush 6, 2) := by decide +kernel
theorem dX12_person_36 : decode cX12_person 36 = .ok (.if_icmp .ne 9, 3) := by decide +kernel
theorem dX12_person_39 : decode cX12_person 39 = .ok (.aload_n 0, 1) := by decide +kernel
theorem dX12_person_40 : decode cX12_person 40 = .ok (.iconst 4, 1) := by decide +kernel
theorem dX12_person_41 : decode cX12_person 41 = .ok (.invokevirtual 121, 3) := by decide +kernel
theorem dX12_person_44 : decode cX12_person 44 = .ok (.ireturn, 1) := by decide +kernel
theorem dX12_person_45 : decode cX12_person 45 = .ok (.aload_n 0, 1) := by decide +kernel
theorem dX12_person_46 : decode cX12_person 46 = .ok (.getfield 7, 3) := by decide +kernel
theorem dX12_person_49 : decode cX12_person 49 = .ok (.iconst 4, 1) := by decide +kernel
theorem dX12_person_50 : decode cX12_person 50 = .ok (.iaload, 1) := by decide +kernel
theorem dX12_person_51 : decode cX12_person 51 = .ok (.istore_n 3, 1) := by decide +kernel
theorem dX12_person_52 : decode cX12_person 52 = .ok (.aload_n 0, 1) := by decide +kernel
theorem dX12_person_53 : decode cX12_person 53 = .ok (.getfield 7, 3) := by decide +kernel
theorem dX12_person_56 : decode cX12_person 56 = .ok (.bipush 10, 2) := by decide +kernel
theorem dX12_person_58 : decode cX12_person 58 = .ok (.iconst 3, 1) := by decide +kernel
theorem dX12_person_59 : decode cX12_person 59 = .ok (.iload_n 3, 1) := by decide +kernel
theorem dX12_person_60 : decode cX12_person 60 = .ok (.imul, 1) := by decide +kernel
theorem dX12_person_61 : decode cX12_person 61 = .ok (.iadd, 1) := by decide +kernel
theorem dX12_person_62 : decode cX12_person 62 = .ok (.iconst 0, 1) := by decide +kernel
theorem dX12_person_63 : decode cX12_person 63 = .ok (.iadd, 1) := by decide +kernel
theorem dX12_person_64 : decode cX12_person 64 = .ok (.iload_n 1, 1) := by decide +kernel
theorem dX12_person_65 : decode cX12_person 65 = .ok (.bipush 10, 2) := by decide +kernel
theorem dX12_person_67 : decode cX12_person 67 = .ok (.idiv, 1) := by decide +kernel
theorem dX12_person_68 : decode cX12_person 68 = .ok (.iastore, 1) := by decide +kernel
theorem dX12_person_69 : decode cX12_person 69 = .ok (.aload_n 0, 1) := by decide +kernel
theorem dX12_person_70 : decode cX12_person 70 = .ok (.getfield 7, 3) := by decide +kernel
theorem dX12_person_73 : decode cX12_person 73 = .ok (.bipush 10, 2) := by decide +kernel
theorem dX12_person_75 : decode cX12_person 75 = .ok (.iconst 3, 1) := by decide +kernel
theorem dX12_person_76 : decode cX12_person 76 = .ok (.iload_n 3, 1) := by decide +kernel
theorem dX12_person_77 : decode cX12_person 77 = .ok (.imul, 1) := by decide +kernel
theorem dX12_person_78 : decode cX12_person 78 = .ok (.iadd, 1) := by decide +kernel
theorem dX12_person_79 : decode cX12_person 79 = .ok (.iconst 1, 1) := by decide +kernel
theorem dX12_person_80 : decode cX12_person 80 = .ok (.iadd, 1) := by decide +kernel
theorem dX12_person_81 : decode cX12_person 81 = .ok (.iload_n 1, 1) := by decide +kernel
theorem dX12_person_82 : decode cX12_person 82 = .ok (.bipush 10, 2) := by decide +kernel
theorem dX12_person_84 : decode cX12_person 84 = .ok (.irem, 1) := by decide +kernel
theorem dX12_person_85 : decode cX12_person 85 = .ok (.iastore, 1) := by decide +kernel
theorem dX12_person_86 : decode cX12_person 86 = .ok (.aload_n 0, 1) := by decide +kernel
theorem dX12_person_87 : decode cX12_person 87 = .ok (.getfield 7, 3) := by decide +kernel
theorem dX12_person_90 : decode cX12_person 90 = .ok (.bipush 10, 2) := by decide +kernel
theorem dX12_person_92 : decode cX12_person 92 = .ok (.iconst 3, 1) := by decide +kernel
theorem dX12_person_93 : decode cX12_person 93 = .ok (.iload_n 3, 1) := by decide +kernel
theorem dX12_person_94 : decode cX12_person 94 = .ok (.imul, 1) := by decide +kernel
theorem dX12_person_95 : decode cX12_person 95 = .ok (.iadd, 1) := by decide +kernel
theorem dX12_person_96 : decode cX12_person 96 = .ok (.iconst 2, 1) := by decide +kernel
theorem dX12_person_97 : decode cX12_person 97 = .ok (.iadd, 1) := by decide +kernel
theorem dX12_person_98 : decode cX12_person 98 = .ok (.iload_n 2, 1) := by decide +kernel
theorem dX12_person_99 : decode cX12_person 99 = .ok (.iastore, 1) := by decide +kernel
theorem dX12_person_100 : decode cX12_person 100 = .ok (.aload_n 0, 1) := by decide +kernel
theorem dX12_person_101 : decode cX12_person 101 = .ok (.getfield 7, 3) := by decide +kernel
theorem dX12_person_104 : decode cX12_person 104 = .ok (.iconst 4, 1) := by decide +kernel
theorem dX12_person_105 : decode cX12_person 105 = .ok (.dup2, 1) := by decide +kernel
theorem dX12_person_106 : decode cX12_person 106 = .ok (.iaload, 1) := by decide +kernel
theorem dX12_person_107 : decode cX12_person 107 = .ok (.iconst 1, 1) := by decide +kernel
theorem dX12_person_108 : decode cX12_person 108 = .ok (.iadd, 1) := by decide +kernel
theorem dX12_person_109 : decode cX12_person 109 = .ok (.iastore, 1) := by decide +kernel
theorem dX12_person_110 : decode cX12_person 110 = .ok (.iload_n 3, 1) := by decide +kernel
theorem dX12_person_111 : decode cX12_person 111 = .ok (.ireturn, 1) := by decide +kernel
theorem dX12_thinksOf_0 : decode cX12_thinksOf 0 = .ok (.aload_n 0, 1) := by decide +kernel
theorem dX12_thinksOf_1 : decode cX12_thinksOf 1 = .ok (.iload_n 1, 1) := by decide +kernel
theorem dX12_thinksOf_2 : decode cX12_thinksOf 2 = .ok (.iconst 1, 1) := by decide +kernel
theorem dX12_thinksOf_3 : decode cX12_thinksOf 3 = .ok (.invokevirtual 145, 3) := by decide +kernel
theorem dX12_thinksOf_6 : decode cX12_thinksOf 6 = .ok (.istore_n 2, 1) := by decide +kernel
theorem dX12_thinksOf_7 : decode cX12_thinksOf 7 = .ok (.iload_n 2, 1) := by decide +kernel
theorem dX12_thinksOf_8 : decode cX12_thinksOf 8 = .ok (.iconst 3, 1) := by decide +kernel
theorem dX12_thinksOf_9 : decode cX12_thinksOf 9 = .ok (.if_icmp .ge 9, 3) := by decide +kernel
theorem dX12_thinksOf_12 : decode cX12_thinksOf 12 = .ok (.iconst 3, 1) := by decide +kernel
theorem dX12_thinksOf_13 : decode cX12_thinksOf 13 = .ok (.iload_n 2, 1) := by decide +kernel
theorem dX12_thinksOf_14 : decode cX12_thinksOf 14 = .ok (.isub, 1) := by decide +kernel
theorem dX12_thinksOf_15 : decode cX12_thinksOf 15 = .ok (.goto 4, 3) := by decide +kernel
theorem dX12_thinksOf_18 : decode cX12_thinksOf 18 = .ok (.iconst 0, 1) := by decide +kernel
theorem dX12_thinksOf_19 : decode cX12_thinksOf 19 = .ok (.istore_n 3, 1) := by decide +kernel
theorem dX12_thinksOf_20 : decode cX12_thinksOf 20 = .ok (.aload_n 0, 1) := by decide +kernel
theorem dX12_thinksOf_21 : decode cX12_thinksOf 21 = .ok (.iload_n 1, 1) := by decide +kernel
theorem dX12_thinksOf_22 : decode cX12_thinksOf 22 = .ok (.iconst 0, 1) := by decide +kernel
theorem dX12_thinksOf_23 : decode cX12_thinksOf 23 = .ok (.invokevirtual 145, 3) := by decide +kernel
theorem dX12_thinksOf_26 : decode cX12_thinksOf 26 = .ok (.tableswitch 78 1 6 #[38, 57, 72, 40, 61, 74], 38) := by decide +kernel
theorem dX12_thinksOf_64 : decode cX12_thinksOf 64 = .ok (.iload_n 3, 1) := by decide +kernel
theorem dX12_thinksOf_65 : decode cX12_thinksOf 65 = .ok (.ireturn, 1) := by decide +kernel
theorem dX12_thinksOf_66 : decode cX12_thinksOf 66 = .ok (.iload_n 3, 1) := by decide +kernel
theorem dX12_thinksOf_67 : decode cX12_thinksOf 67 = .ok (.aload_n 0, 1) := by decide +kernel
theorem dX12_thinksOf_68 : decode cX12_thinksOf 68 = .ok (.getfield 7, 3) := by decide +kernel
theorem dX12_thinksOf_71 : decode cX12_thinksOf 71 = .ok (.iconst 1, 1) := by decide +kernel
theorem dX12_thinksOf_72 : decode cX12_thinksOf 72 = .ok (.iaload, 1) := by decide +kernel
theorem dX12_thinksOf_73 : decode cX12_thinksOf 73 = .ok (.ifCond .le 7, 3) := by decide +kernel
theorem dX12_thinksOf_76 : decode cX12_thinksOf 76 = .ok (.iconst 1, 1) := by decide +kernel
theorem dX12_thinksOf_77 : decode cX12_thinksOf 77 = .ok (.goto 4, 3) := by decide +kernel
theorem dX12_thinksOf_80 : decode cX12_thinksOf 80 = .ok (.iconst 0, 1) := by decide +kernel
theorem dX12_thinksOf_81 : decode cX12_thinksOf 81 = .ok (.iadd, 1) := by decide +kernel
theorem dX12_thinksOf_82 : decode cX12_thinksOf 82 = .ok (.ireturn, 1) := by decide +kernel
theorem dX12_thinksOf_83 : decode cX12_thinksOf 83 = .ok (.iconst 3, 1) := by decide +kernel
theorem dX12_thinksOf_84 : decode cX12_thinksOf 84 = .ok (.iload_n 2, 1) := by decide +kernel
theorem dX12_thinksOf_85 : decode cX12_thinksOf 85 = .ok (.iadd, 1) := by decide +kernel
theorem dX12_thinksOf_86 : decode cX12_thinksOf 86 = .ok (.ireturn, 1) := by decide +kernel
theorem dX12_thinksOf_87 : decode cX12_thinksOf 87 = .ok (.iconst 3, 1) := by decide +kernel
theorem dX12_thinksOf_88 : decode cX12_thinksOf 88 = .ok (.iload_n 2, 1) := by decide +kernel
theorem dX12_thinksOf_89 : decode cX12_thinksOf 89 = .ok (.iadd, 1) := by decide +kernel
theorem dX12_thinksOf_90 : decode cX12_thinksOf 90 = .ok (.aload_n 0, 1) := by decide +kernel
theorem dX12_thinksOf_91 : decode cX12_thinksOf 91 = .ok (.getfield 7, 3) := by decide +kernel
theorem dX12_thinksOf_94 : decode cX12_thinksOf 94 = .ok (.iconst 2, 1) := by decide +kernel
theorem dX12_thinksOf_95 : decode cX12_thinksOf 95 = .ok (.iaload, 1) := by decide +kernel
theorem dX12_thinksOf_96 : decode cX12_thinksOf 96 = .ok (.iadd, 1) := by decide +kernel
theorem dX12_thinksOf_97 : decode cX12_thinksOf 97 = .ok (.ireturn, 1) := by decide +kernel
theorem dX12_thinksOf_98 : decode cX12_thinksOf 98 = .ok (.iconst 1, 1) := by decide +kernel
theorem dX12_thinksOf_99 : decode cX12_thinksOf 99 = .ok (.ireturn, 1) := by decide +kernel
theorem dX12_thinksOf_100 : decode cX12_thinksOf 100 = .ok (.iconst 2, 1) := by decide +kernel
theorem dX12_thinksOf_101 : decode cX12_thinksOf 101 = .ok (.iload_n 2, 1) := by decide +kernel
theorem dX12_thinksOf_102 : decode cX12_thinksOf 102 = .ok (.iadd, 1) := by decide +kernel
theorem dX12_thinksOf_103 : decode cX12_thinksOf 103 = .ok (.ireturn, 1) := by decide +kernel
theorem dX12_thinksOf_104 : decode cX12_thinksOf 104 = .ok (.iconst 3, 1) := by decide +kernel
theorem dX12_thinksOf_105 : decode cX12_thinksOf 105 = .ok (.ireturn, 1) := by decide +kernel
theorem dX12_carriesOf_0 : decode cX12_carriesOf 0 = .ok (.aload_n 0, 1) := by decide +kernel
theorem dX12_carriesOf_1 : decode cX12_carriesOf 1 = .ok (.iload_n 1, 1) := by decide +kernel
theorem dX12_carriesOf_2 : decode cX12_carriesOf 2 = .ok (.iconst 0, 1) := by decide +kernel
theorem dX12_carriesOf_3 : decode cX12_carriesOf 3 = .ok (.invokevirtual 145, 3) := by decide +kernel
theorem dX12_carriesOf_6 : decode cX12_carriesOf 6 = .ok (.istore_n 3, 1) := by decide +kernel
theorem dX12_carriesOf_7 : decode cX12_carriesOf 7 = .ok (.iload_n 2, 1) := by decide +kernel
theorem dX12_carriesOf_8 : decode cX12_carriesOf 8 = .ok (.iconst 2, 1) := by decide +kernel
theorem dX12_carriesOf_9 : decode cX12_carriesOf 9 = .ok (.irem, 1) := by decide +kernel
theorem dX12_carriesOf_10 : decode cX12_carriesOf 10 = .ok (.iconst 1, 1) := by decide +kernel
theorem dX12_carriesOf_11 : decode cX12_carriesOf 11 = .ok (.if_icmp .ne 15, 3) := by decide +kernel
theorem dX12_carriesOf_14 : decode cX12_carriesOf 14 = .ok (.bipush 9, 2) := by decide +kernel
theorem dX12_carriesOf_16 : decode cX12_carriesOf 16 = .ok (.aload_n 0, 1) := by decide +kernel
theorem dX12_carriesOf_17 : decode cX12_carriesOf 17 = .ok (.getfield 7, 3) := by decide +kernel
theorem dX12_carriesOf_20 : decode cX12_carriesOf 20 = .ok (.iconst 2, 1) := by decide +kernel
theorem dX12_carriesOf_21 : decode cX12_carriesOf 21 = .ok (.iaload, 1) := by decide +kernel
theorem dX12_carriesOf_22 : decode cX12_carriesOf 22 = .ok (.isub, 1) := by decide +kernel
theorem dX12_carriesOf_23 : decode cX12_carriesOf 23 = .ok (.goto 5, 3) := by decide +kernel
theorem dX12_carriesOf_26 : decode cX12_carriesOf 26 = .ok (.bipush 9, 2) := by decide +kernel
theorem dX12_carriesOf_28 : decode cX12_carriesOf 28 = .ok (.istore 4, 2) := by decide +kernel
theorem dX12_carriesOf_30 : decode cX12_carriesOf 30 = .ok (.iload_n 3, 1) := by decide +kernel
theorem dX12_carriesOf_31 : decode cX12_carriesOf 31 = .ok (.iconst 3, 1) := by decide +kernel
theorem dX12_carriesOf_32 : decode cX12_carriesOf 32 = .ok (.if_icmp .ne 8, 3) := by decide +kernel
theorem dX12_carriesOf_35 : decode cX12_carriesOf 35 = .ok (.bipush 10, 2) := by decide +kernel
theorem dX12_carriesOf_37 : decode cX12_carriesOf 37 = .ok (.goto 54, 3) := by decide +kernel
theorem dX12_carriesOf_40 : decode cX12_carriesOf 40 = .ok (.iload_n 3, 1) := by decide +kernel
theorem dX12_carriesOf_41 : decode cX12_carriesOf 41 = .ok (.bipush 6, 2) := by decide +kernel
theorem dX12_carriesOf_43 : decode cX12_carriesOf 43 = .ok (.if_icmp .ne 15, 3) := by decide +kernel
theorem dX12_carriesOf_46 : decode cX12_carriesOf 46 = .ok (.bipush 10, 2) := by decide +kernel
theorem dX12_carriesOf_48 : decode cX12_carriesOf 48 = .ok (.aload_n 0, 1) := by decide +kernel
theorem dX12_carriesOf_49 : decode cX12_carriesOf 49 = .ok (.getfield 7, 3) := by decide +kernel
theorem dX12_carriesOf_52 : decode cX12_carriesOf 52 = .ok (.iconst 2, 1) := by decide +kernel
theorem dX12_carriesOf_53 : decode cX12_carriesOf 53 = .ok (.iaload, 1) := by decide +kernel
theorem dX12_carriesOf_54 : decode cX12_carriesOf 54 = .ok (.isub, 1) := by decide +kernel
theorem dX12_carriesOf_55 : decode cX12_carriesOf 55 = .ok (.goto 36, 3) := by decide +kernel
theorem dX12_carriesOf_58 : decode cX12_carriesOf 58 = .ok (.iload_n 3, 1) := by decide +kernel
theorem dX12_carriesOf_59 : decode cX12_carriesOf 59 = .ok (.iconst 4, 1) := by decide +kernel
theorem dX12_carriesOf_60 : decode cX12_carriesOf 60 = .ok (.if_icmp .ne 17, 3) := by decide +kernel
theorem dX12_carriesOf_63 : decode cX12_carriesOf 63 = .ok (.iload 4, 2) := by decide +kernel
theorem dX12_carriesOf_65 : decode cX12_carriesOf 65 = .ok (.aload_n 0, 1) := by decide +kernel
theorem dX12_carriesOf_66 : decode cX12_carriesOf 66 = .ok (.iload_n 1, 1) := by decide +kernel
theorem dX12_carriesOf_67 : decode cX12_carriesOf 67 = .ok (.iconst 1, 1) := by decide +kernel
theorem dX12_carriesOf_68 : decode cX12_carriesOf 68 = .ok (.invokevirtual 145, 3) := by decide +kernel
theorem dX12_carriesOf_71 : decode cX12_carriesOf 71 = .ok (.iconst 3, 1) := by decide +kernel
theorem dX12_carriesOf_72 : decode cX12_carriesOf 72 = .ok (.idiv, 1) := by decide +kernel
theorem dX12_carriesOf_73 : decode cX12_carriesOf 73 = .ok (.isub, 1) := by decide +kernel
theorem dX12_carriesOf_74 : decode cX12_carriesOf 74 = .ok (.goto 17, 3) := by decide +kernel
theorem dX12_carriesOf_77 : decode cX12_carriesOf 77 = .ok (.iload_n 3, 1) := by decide +kernel
theorem dX12_carriesOf_78 : decode cX12_carriesOf 78 = .ok (.iconst 5, 1) := by decide +kernel
theorem dX12_carriesOf_79 : decode cX12_carriesOf 79 = .ok (.if_icmp .ne 10, 3) := by decide +kernel
theorem dX12_carriesOf_82 : decode cX12_carriesOf 82 = .ok (.iload 4, 2) := by decide +kernel
theorem dX12_carriesOf_84 : decode cX12_carriesOf 84 = .ok (.iconst 2, 1) := by decide +kernel
theorem dX12_carriesOf_85 : decode cX12_carriesOf 85 = .ok (.idiv, 1) := by decide +kernel
theorem dX12_carriesOf_86 : decode cX12_carriesOf 86 = .ok (.goto 5, 3) := by decide +kernel
theorem dX12_carriesOf_89 : decode cX12_carriesOf 89 = .ok (.iload 4, 2) := by decide +kernel
theorem dX12_carriesOf_91 : decode cX12_carriesOf 91 = .ok (.istore 5, 2) := by decide +kernel
theorem dX12_carriesOf_93 : decode cX12_carriesOf 93 = .ok (.iload 5, 2) := by decide +kernel
theorem dX12_carriesOf_95 : decode cX12_carriesOf 95 = .ok (.aload_n 0, 1) := by decide +kernel
theorem dX12_carriesOf_96 : decode cX12_carriesOf 96 = .ok (.iconst 0, 1) := by decide +kernel
theorem dX12_carriesOf_97 : decode cX12_carriesOf 97 = .ok (.iload_n 2, 1) := by decide +kernel
theorem dX12_carriesOf_98 : decode cX12_carriesOf 98 = .ok (.aload_n 0, 1) := by decide +kernel
theorem dX12_carriesOf_99 : decode cX12_carriesOf 99 = .ok (.getfield 7, 3) := by decide +kernel
theorem dX12_carriesOf_102 : decode cX12_carriesOf 102 = .ok (.iconst 1, 1) := by decide +kernel
theorem dX12_carriesOf_103 : decode cX12_carriesOf 103 = .ok (.iaload, 1) := by decide +kernel
theorem dX12_carriesOf_104 : decode cX12_carriesOf 104 = .ok (.aload_n 0, 1) := by decide +kernel
theorem dX12_carriesOf_105 : decode cX12_carriesOf 105 = .ok (.getfield 7, 3) := by decide +kernel
theorem dX12_carriesOf_108 : decode cX12_carriesOf 108 = .ok (.iconst 2, 1) := by decide +kernel
theorem dX12_carriesOf_109 : decode cX12_carriesOf 109 = .ok (.iaload, 1) := by decide +kernel
theorem dX12_carriesOf_110 : decode cX12_carriesOf 110 = .ok (.iload_n 3, 1) := by decide +kernel
theorem dX12_carriesOf_111 : decode cX12_carriesOf 111 = .ok (.invokevirtual 133, 3) := by decide +kernel
theorem dX12_carriesOf_114 : decode cX12_carriesOf 114 = .ok (.iadd, 1) := by decide +kernel
theorem dX12_carriesOf_115 : decode cX12_carriesOf 115 = .ok (.iconst 0, 1) := by decide +kernel
theorem dX12_carriesOf_116 : decode cX12_carriesOf 116 = .ok (.bipush 10, 2) := by decide +kernel
theorem dX12_carriesOf_118 : decode cX12_carriesOf 118 = .ok (.invokestatic 130, 3) := by decide +kernel
theorem dX12_carriesOf_121 : decode cX12_carriesOf 121 = .ok (.ireturn, 1) := by decide +kernel
theorem dX12_saysOf_0 : decode cX12_saysOf 0 = .ok (.aload_n 0, 1) := by decide +kernel
theorem dX12_saysOf_1 : decode cX12_saysOf 1 = .ok (.iload_n 1, 1) := by decide +kernel
theorem dX12_saysOf_2 : decode cX12_saysOf 2 = .ok (.iconst 0, 1) := by decide +kernel
theorem dX12_saysOf_3 : decode cX12_saysOf 3 = .ok (.invokevirtual 145, 3) := by decide +kernel
theorem dX12_saysOf_6 : decode cX12_saysOf 6 = .ok (.istore_n 3, 1) := by decide +kernel
theorem dX12_saysOf_7 : decode cX12_saysOf 7 = .ok (.aload_n 0, 1) := by decide +kernel
theorem dX12_saysOf_8 : decode cX12_saysOf 8 = .ok (.iload_n 1, 1) := by decide +kernel
theorem dX12_saysOf_9 : decode cX12_saysOf 9 = .ok (.iconst 1, 1) := by decide +kernel
theorem dX12_saysOf_10 : decode cX12_saysOf 10 = .ok (.invokevirtual 145, 3) := by decide +kernel
theorem dX12_saysOf_13 : decode cX12_saysOf 13 = .ok (.istore 4, 2) := by decide +kernel
theorem dX12_saysOf_15 : decode cX12_saysOf 15 = .ok (.iload_n 3, 1) := by decide +kernel
theorem dX12_saysOf_16 : decode cX12_saysOf 16 = .ok (.bipush 6, 2) := by decide +kernel
theorem dX12_saysOf_18 : decode cX12_saysOf 18 = .ok (.if_icmp .ne 5, 3) := by decide +kernel
theorem dX12_saysOf_21 : decode cX12_saysOf 21 = .ok (.iload_n 2, 1) := by decide +kernel
theorem dX12_saysOf_22 : decode cX12_saysOf 22 = .ok (.ireturn, 1) := by decide +kernel
theorem dX12_saysOf_23 : decode cX12_saysOf 23 = .ok (.aload_n 0, 1) := by decide +kernel
theorem dX12_saysOf_24 : decode cX12_saysOf 24 = .ok (.iconst 1, 1) := by decide +kernel
theorem dX12_saysOf_25 : decode cX12_saysOf 25 = .ok (.iload_n 2, 1) := by decide +kernel
theorem dX12_saysOf_26 : decode cX12_saysOf 26 = .ok (.iload 4, 2) := by decide +kernel
theorem dX12_saysOf_28 : decode cX12_saysOf 28 = .ok (.aload_n 0, 1) := by decide +kernel
theorem dX12_saysOf_29 : decode cX12_saysOf 29 = .ok (.iload_n 1, 1) := by decide +kernel
theorem dX12_saysOf_30 : decode cX12_saysOf 30 = .ok (.iconst 2, 1) := by decide +kernel
theorem dX12_saysOf_31 : decode cX12_saysOf 31 = .ok (.invokevirtual 145, 3) := by decide +kernel
theorem dX12_saysOf_34 : decode cX12_saysOf 34 = .ok (.iconst 0, 1) := by decide +kernel
theorem dX12_saysOf_35 : decode cX12_saysOf 35 = .ok (.invokevirtual 133, 3) := by decide +kernel
theorem dX12_saysOf_38 : decode cX12_saysOf 38 = .ok (.istore 5, 2) := by decide +kernel
theorem dX12_saysOf_40 : decode cX12_saysOf 40 = .ok (.iload_n 3, 1) := by decide +kernel
theorem dX12_saysOf_41 : decode cX12_saysOf 41 = .ok (.iconst 4, 1) := by decide +kernel
theorem dX12_saysOf_42 : decode cX12_saysOf 42 = .ok (.if_icmp .ne 14, 3) := by decide +kernel
theorem dX12_saysOf_45 : decode cX12_saysOf 45 = .ok (.iload 5, 2) := by decide +kernel
theorem dX12_saysOf_47 : decode cX12_saysOf 47 = .ok (.iload 4, 2) := by decide +kernel
theorem dX12_saysOf_49 : decode cX12_saysOf 49 = .ok (.iadd, 1) := by decide +kernel
theorem dX12_saysOf_50 : decode cX12_saysOf 50 = .ok (.bipush 40, 2) := by decide +kernel
theorem dX12_saysOf_52 : decode cX12_saysOf 52 = .ok (.irem, 1) := by decide +kernel
theorem dX12_saysOf_53 : decode cX12_saysOf 53 = .ok (.goto 5, 3) := by decide +kernel
theorem dX12_saysOf_56 : decode cX12_saysOf 56 = .ok (.iload 5, 2) := by decide +kernel
theorem dX12_saysOf_58 : decode cX12_saysOf 58 = .ok (.ireturn, 1) := by decide +kernel
theorem dX12_ofVoice_0 : decode cX12_ofVoice 0 = .ok (.aload_n 0, 1) := by decide +kernel
theorem dX12_ofVoice_1 : decode cX12_ofVoice 1 = .ok (.iload_n 1, 1) := by decide +kernel
theorem dX12_ofVoice_2 : decode cX12_ofVoice 2 = .ok (.invokevirtual 149, 3) := by decide +kernel
theorem dX12_ofVoice_5 : decode cX12_ofVoice 5 = .ok (.ifCond .eq 15, 3) := by decide +kernel
theorem dX12_ofVoice_8 : decode cX12_ofVoice 8 = .ok (.iload_n 2, 1) := by decide +kernel
theorem dX12_ofVoice_9 : decode cX12_ofVoice 9 = .ok (.i2l, 1) := by decide +kernel
theorem dX12_ofVoice_10 : decode cX12_ofVoice 10 = .ok (.lconst 0, 1) := by decide +kernel
theorem dX12_ofVoice_11 : decode cX12_ofVoice 11 = .ok (.ldc2_w 152, 3) := by decide +kernel
theorem dX12_ofVoice_14 : decode cX12_ofVoice 14 = .ok (.invokestatic 56, 3) := by decide +kernel
theorem dX12_ofVoice_17 : decode cX12_ofVoice 17 = .ok (.ifCond .ne 9, 3) := by decide +kernel
theorem dX12_ofVoice_20 : decode cX12_ofVoice 20 = .ok (.aload_n 0, 1) := by decide +kernel
theorem dX12_ofVoice_21 : decode cX12_ofVoice 21 = .ok (.iconst 1, 1) := by decide +kernel
theorem dX12_ofVoice_22 : decode cX12_ofVoice 22 = .ok (.invokevirtual 121, 3) := by decide +kernel
theorem dX12_ofVoice_25 : decode cX12_ofVoice 25 = .ok (.ireturn, 1) := by decide +kernel
theorem dX12_ofVoice_26 : decode cX12_ofVoice 26 = .ok (.iload_n 2, 1) := by decide +kernel
theorem dX12_ofVoice_27 : decode cX12_ofVoice 27 = .ok (.iconst 3, 1) := by decide +kernel
theorem dX12_ofVoice_28 : decode cX12_ofVoice 28 = .ok (.if_icmp .ge 12, 3) := by decide +kernel
theorem dX12_ofVoice_31 : decode cX12_ofVoice 31 = .ok (.aload_n 0, 1) := by decide +kernel
theorem dX12_ofVoice_32 : decode cX12_ofVoice 32 = .ok (.iload_n 1, 1) := by decide +kernel
theorem dX12_ofVoice_33 : decode cX12_ofVoice 33 = .ok (.iload_n 2, 1) := by decide +kernel
theorem dX12_ofVoice_34 : decode cX12_ofVoice 34 = .ok (.invokevirtual 145, 3) := by decide +kernel
theorem dX12_ofVoice_37 : decode cX12_ofVoice 37 = .ok (.goto 8, 3) := by decide +kernel
theorem dX12_ofVoice_40 : decode cX12_ofVoice 40 = .ok (.aload_n 0, 1) := by decide +kernel
theorem dX12_ofVoice_41 : decode cX12_ofVoice 41 = .ok (.iload_n 1, 1) := by decide +kernel
theorem dX12_ofVoice_42 : decode cX12_ofVoice 42 = .ok (.invokevirtual 154, 3) := by decide +kernel
theorem dX12_ofVoice_45 : decode cX12_ofVoice 45 = .ok (.ireturn, 1) := by decide +kernel
theorem dX12_carries_0 : decode cX12_carries 0 = .ok (.aload_n 0, 1) := by decide +kernel
theorem dX12_carries_1 : decode cX12_carries 1 = .ok (.iload_n 1, 1) := by decide +kernel
theorem dX12_carries_2 : decode cX12_carries 2 = .ok (.invokevirtual 149, 3) := by decide +kernel
theorem dX12_carries_5 : decode cX12_carries 5 = .ok (.ifCond .eq 19, 3) := by decide +kernel
theorem dX12_carries_8 : decode cX12_carries 8 = .ok (.iload_n 2, 1) := by decide +kernel
theorem dX12_carries_9 : decode cX12_carries 9 = .ok (.invokestatic 157, 3) := by decide +kernel
theorem dX12_carries_12 : decode cX12_carries 12 = .ok (.ifCond .eq 12, 3) := by decide +kernel
theorem dX12_carries_15 : decode cX12_carries 15 = .ok (.aload_n 0, 1) := by decide +kernel
theorem dX12_carries_16 : decode cX12_carries 16 = .ok (.iload_n 1, 1) := by decide +kernel
theorem dX12_carries_17 : decode cX12_carries 17 = .ok (.iload_n 2, 1) := by decide +kernel
theorem dX12_carries_18 : decode cX12_carries 18 = .ok (.invokevirtual 160, 3) := by decide +kernel
theorem dX12_carries_21 : decode cX12_carries 21 = .ok (.goto 8, 3) := by decide +kernel
theorem dX12_carries_24 : decode cX12_carries 24 = .ok (.aload_n 0, 1) := by decide +kernel
theorem dX12_carries_25 : decode cX12_carries 25 = .ok (.iconst 1, 1) := by decide +kernel
theorem dX12_carries_26 : decode cX12_carries 26 = .ok (.invokevirtual 121, 3) := by decide +kernel
theorem dX12_carries_29 : decode cX12_carries 29 = .ok (.ireturn, 1) := by decide +kernel
theorem dX12_says_0 : decode cX12_says 0 = .ok (.aload_n 0, 1) := by decide +kernel
theorem dX12_says_1 : decode cX12_says 1 = .ok (.iload_n 1, 1) := by decide +kernel
theorem dX12_says_2 : decode cX12_says 2 = .ok (.invokevirtual 149, 3) := by decide +kernel
theorem dX12_says_5 : decode cX12_says 5 = .ok (.ifCond .eq 19, 3) := by decide +kernel
theorem dX12_says_8 : decode cX12_says 8 = .ok (.iload_n 2, 1) := by decide +kernel
theorem dX12_says_9 : decode cX12_says 9 = .ok (.invokestatic 157, 3) := by decide +kernel
theorem dX12_says_12 : decode cX12_says 12 = .ok (.ifCond .eq 12, 3) := by decide +kernel
theorem dX12_says_15 : decode cX12_says 15 = .ok (.aload_n 0, 1) := by decide +kernel
theorem dX12_says_16 : decode cX12_says 16 = .ok (.iload_n 1, 1) := by decide +kernel
theorem dX12_says_17 : decode cX12_says 17 = .ok (.iload_n 2, 1) := by decide +kernel
theorem dX12_says_18 : decode cX12_says 18 = .ok (.invokevirtual 163, 3) := by decide +kernel
theorem dX12_says_21 : decode cX12_says 21 = .ok (.goto 8, 3) := by decide +kernel
theorem dX12_says_24 : decode cX12_says 24 = .ok (.aload_n 0, 1) := by decide +kernel
theorem dX12_says_25 : decode cX12_says 25 = .ok (.iconst 1, 1) := by decide +kernel
theorem dX12_says_26 : decode cX12_says 26 = .ok (.invokevirtual 121, 3) := by decide +kernel
theorem dX12_says_29 : decode cX12_says 29 = .ok (.ireturn, 1) := by decide +kernel
theorem dX12_go_0 : decode cX12_go 0 = .ok (.aload_n 0, 1) := by decide +kernel
theorem dX12_go_1 : decode cX12_go 1 = .ok (.iload_n 1, 1) := by decide +kernel
theorem dX12_go_2 : decode cX12_go 2 = .ok (.invokevirtual 149, 3) := by decide +kernel
theorem dX12_go_5 : decode cX12_go 5 = .ok (.ifCond .eq 13, 3) := by decide +kernel
theorem dX12_go_8 : decode cX12_go 8 = .ok (.iload_n 2, 1) := by decide +kernel
theorem dX12_go_9 : decode cX12_go 9 = .ok (.i2l, 1) := by decide +kernel
theorem dX12_go_10 : decode cX12_go 10 = .ok (.lconst 0, 1) := by decide +kernel
theorem dX12_go_11 : decode cX12_go 11 = .ok (.lconst 1, 1) := by decide +kernel
theorem dX12_go_12 : decode cX12_go 12 = .ok (.invokestatic 56, 3) := by decide +kernel
theorem dX12_go_15 : decode cX12_go 15 = .ok (.ifCond .ne 9, 3) := by decide +kernel
theorem dX12_go_18 : decode cX12_go 18 = .ok (.aload_n 0, 1) := by decide +kernel
theorem dX12_go_19 : decode cX12_go 19 = .ok (.iconst 1, 1) := by decide +kernel
theorem dX12_go_20 : decode cX12_go 20 = .ok (.invokevirtual 121, 3) := by decide +kernel
theorem dX12_go_23 : decode cX12_go 23 = .ok (.ireturn, 1) := by decide +kernel
theorem dX12_go_24 : decode cX12_go 24 = .ok (.aload_n 0, 1) := by decide +kernel
theorem dX12_go_25 : decode cX12_go 25 = .ok (.iload_n 1, 1) := by decide +kernel
theorem dX12_go_26 : decode cX12_go 26 = .ok (.iconst 2, 1) := by decide +kernel
theorem dX12_go_27 : decode cX12_go 27 = .ok (.invokevirtual 145, 3) := by decide +kernel
theorem dX12_go_30 : decode cX12_go 30 = .ok (.istore_n 3, 1) := by decide +kernel
theorem dX12_go_31 : decode cX12_go 31 = .ok (.aload_n 0, 1) := by decide +kernel
theorem dX12_go_32 : decode cX12_go 32 = .ok (.getfield 7, 3) := by decide +kernel
theorem dX12_go_35 : decode cX12_go 35 = .ok (.bipush 10, 2) := by decide +kernel
theorem dX12_go_37 : decode cX12_go 37 = .ok (.iconst 3, 1) := by decide +kernel
theorem dX12_go_38 : decode cX12_go 38 = .ok (.iload_n 1, 1) := by decide +kernel
theorem dX12_go_39 : decode cX12_go 39 = .ok (.imul, 1) := by decide +kernel
theorem dX12_go_40 : decode cX12_go 40 = .ok (.iadd, 1) := by decide +kernel
theorem dX12_go_41 : decode cX12_go 41 = .ok (.iconst 2, 1) := by decide +kernel
theorem dX12_go_42 : decode cX12_go 42 = .ok (.iadd, 1) := by decide +kernel
theorem dX12_go_43 : decode cX12_go 43 = .ok (.iload_n 2, 1) := by decide +kernel
theorem dX12_go_44 : decode cX12_go 44 = .ok (.iastore, 1) := by decide +kernel
theorem dX12_go_45 : decode cX12_go 45 = .ok (.iload_n 3, 1) := by decide +kernel
theorem dX12_go_46 : decode cX12_go 46 = .ok (.ireturn, 1) := by decide +kernel
theorem dX12_become_0 : decode cX12_become 0 = .ok (.aload_n 0, 1) := by decide +kernel
theorem dX12_become_1 : decode cX12_become 1 = .ok (.iload_n 1, 1) := by decide +kernel
theorem dX12_become_2 : decode cX12_become 2 = .ok (.invokevirtual 149, 3) := by decide +kernel
theorem dX12_become_5 : decode cX12_become 5 = .ok (.ifCond .eq 15, 3) := by decide +kernel
theorem dX12_become_8 : decode cX12_become 8 = .ok (.iload_n 2, 1) := by decide +kernel
theorem dX12_become_9 : decode cX12_become 9 = .ok (.i2l, 1) := by decide +kernel
theorem dX12_become_10 : decode cX12_become 10 = .ok (.lconst 0, 1) := by decide +kernel
theorem dX12_become_11 : decode cX12_become 11 = .ok (.ldc2_w 143, 3) := by decide +kernel
theorem dX12_become_14 : decode cX12_become 14 = .ok (.invokestatic 56, 3) := by decide +kernel
theorem dX12_become_17 : decode cX12_become 17 = .ok (.ifCond .ne 9, 3) := by decide +kernel
theorem dX12_become_20 : decode cX12_become 20 = .ok (.aload_n 0, 1) := by decide +kernel
theorem dX12_become_21 : decode cX12_become 21 = .ok (.iconst 1, 1) := by decide +kernel
theorem dX12_become_22 : decode cX12_become 22 = .ok (.invokevirtual 121, 3) := by decide +kernel
theorem dX12_become_25 : decode cX12_become 25 = .ok (.ireturn, 1) := by decide +kernel
theorem dX12_become_26 : decode cX12_become 26 = .ok (.aload_n 0, 1) := by decide +kernel
theorem dX12_become_27 : decode cX12_become 27 = .ok (.iload_n 1, 1) := by decide +kernel
theorem dX12_become_28 : decode cX12_become 28 = .ok (.iconst 0, 1) := by decide +kernel
theorem dX12_become_29 : decode cX12_become 29 = .ok (.invokevirtual 145, 3) := by decide +kernel
theorem dX12_become_32 : decode cX12_become 32 = .ok (.istore_n 3, 1) := by decide +kernel
theorem dX12_become_33 : decode cX12_become 33 = .ok (.aload_n 0, 1) := by decide +kernel
theorem dX12_become_34 : decode cX12_become 34 = .ok (.getfield 7, 3) := by decide +kernel
theorem dX12_become_37 : decode cX12_become 37 = .ok (.bipush 10, 2) := by decide +kernel
theorem dX12_become_39 : decode cX12_become 39 = .ok (.iconst 3, 1) := by decide +kernel
theorem dX12_become_40 : decode cX12_become 40 = .ok (.iload_n 1, 1) := by decide +kernel
theorem dX12_become_41 : decode cX12_become 41 = .ok (.imul, 1) := by decide +kernel
theorem dX12_become_42 : decode cX12_become 42 = .ok (.iadd, 1) := by decide +kernel
theorem dX12_become_43 : decode cX12_become 43 = .ok (.iconst 0, 1) := by decide +kernel
theorem dX12_become_44 : decode cX12_become 44 = .ok (.iadd, 1) := by decide +kernel
theorem dX12_become_45 : decode cX12_become 45 = .ok (.iload_n 2, 1) := by decide +kernel
theorem dX12_become_46 : decode cX12_become 46 = .ok (.bipush 10, 2) := by decide +kernel
theorem dX12_become_48 : decode cX12_become 48 = .ok (.idiv, 1) := by decide +kernel
theorem dX12_become_49 : decode cX12_become 49 = .ok (.iastore, 1) := by decide +kernel
theorem dX12_become_50 : decode cX12_become 50 = .ok (.aload_n 0, 1) := by decide +kernel
theorem dX12_become_51 : decode cX12_become 51 = .ok (.getfield 7, 3) := by decide +kernel
theorem dX12_become_54 : decode cX12_become 54 = .ok (.bipush 10, 2) := by decide +kernel
theorem dX12_become_56 : decode cX12_become 56 = .ok (.iconst 3, 1) := by decide +kernel
theorem dX12_become_57 : decode cX12_become 57 = .ok (.iload_n 1, 1) := by decide +kernel
theorem dX12_become_58 : decode cX12_become 58 = .ok (.imul, 1) := by decide +kernel
theorem dX12_become_59 : decode cX12_become 59 = .ok (.iadd, 1) := by decide +kernel
theorem dX12_become_60 : decode cX12_become 60 = .ok (.iconst 1, 1) := by decide +kernel
theorem dX12_become_61 : decode cX12_become 61 = .ok (.iadd, 1) := by decide +kernel
theorem dX12_become_62 : decode cX12_become 62 = .ok (.iload_n 2, 1) := by decide +kernel
theorem dX12_become_63 : decode cX12_become 63 = .ok (.bipush 10, 2) := by decide +kernel
theorem dX12_become_65 : decode cX12_become 65 = .ok (.irem, 1) := by decide +kernel
theorem dX12_become_66 : decode cX12_become 66 = .ok (.iastore, 1) := by decide +kernel
theorem dX12_become_67 : decode cX12_become 67 = .ok (.iload_n 3, 1) := by decide +kernel
theorem dX12_become_68 : decode cX12_become 68 = .ok (.ireturn, 1) := by decide +kernel
theorem dX12_above_0 : decode cX12_above 0 = .ok (.iload_n 0, 1) := by decide +kernel
theorem dX12_above_1 : decode cX12_above 1 = .ok (.iconst 4, 1) := by decide +kernel
theorem dX12_above_2 : decode cX12_above 2 = .ok (.if_icmp .ge 7, 3) := by decide +kernel
theorem dX12_above_5 : decode cX12_above 5 = .ok (.iconst 0, 1) := by decide +kernel
theorem dX12_above_6 : decode cX12_above 6 = .ok (.goto 6, 3) := by decide +kernel
theorem dX12_above_9 : decode cX12_above 9 = .ok (.iload_n 0, 1) := by decide +kernel
theorem dX12_above_10 : decode cX12_above 10 = .ok (.iconst 3, 1) := by decide +kernel
theorem dX12_above_11 : decode cX12_above 11 = .ok (.isub, 1) := by decide +kernel
theorem dX12_above_12 : decode cX12_above 12 = .ok (.ireturn, 1) := by decide +kernel
theorem dX12_as_0 : decode cX12_as 0 = .ok (.aload_n 0, 1) := by decide +kernel
theorem dX12_as_1 : decode cX12_as 1 = .ok (.iload_n 1, 1) := by decide +kernel
theorem dX12_as_2 : decode cX12_as 2 = .ok (.invokevirtual 149, 3) := by decide +kernel
theorem dX12_as_5 : decode cX12_as 5 = .ok (.ifCond .eq 15, 3) := by decide +kernel
theorem dX12_as_8 : decode cX12_as 8 = .ok (.iload_n 2, 1) := by decide +kernel
theorem dX12_as_9 : decode cX12_as 9 = .ok (.i2l, 1) := by decide +kernel
theorem dX12_as_10 : decode cX12_as 10 = .ok (.lconst 0, 1) := by decide +kernel
theorem dX12_as_11 : decode cX12_as 11 = .ok (.ldc2_w 166, 3) := by decide +kernel
theorem dX12_as_14 : decode cX12_as 14 = .ok (.invokestatic 56, 3) := by decide +kernel
theorem dX12_as_17 : decode cX12_as 17 = .ok (.ifCond .ne 9, 3) := by decide +kernel
theorem dX12_as_20 : decode cX12_as 20 = .ok (.aload_n 0, 1) := by decide +kernel
theorem dX12_as_21 : decode cX12_as 21 = .ok (.iconst 1, 1) := by decide +kernel
theorem dX12_as_22 : decode cX12_as 22 = .ok (.invokevirtual 121, 3) := by decide +kernel
theorem dX12_as_25 : decode cX12_as 25 = .ok (.ireturn, 1) := by decide +kernel
theorem dX12_as_26 : decode cX12_as 26 = .ok (.aload_n 0, 1) := by decide +kernel
theorem dX12_as_27 : decode cX12_as 27 = .ok (.iload_n 1, 1) := by decide +kernel
theorem dX12_as_28 : decode cX12_as 28 = .ok (.iconst 0, 1) := by decide +kernel
theorem dX12_as_29 : decode cX12_as 29 = .ok (.invokevirtual 145, 3) := by decide +kernel
theorem dX12_as_32 : decode cX12_as 32 = .ok (.istore_n 3, 1) := by decide +kernel
theorem dX12_as_33 : decode cX12_as 33 = .ok (.iload_n 2, 1) := by decide +kernel
theorem dX12_as_34 : decode cX12_as 34 = .ok (.ifCond .eq 16, 3) := by decide +kernel
theorem dX12_as_37 : decode cX12_as 37 = .ok (.iload_n 2, 1) := by decide +kernel
theorem dX12_as_38 : decode cX12_as 38 = .ok (.iload_n 3, 1) := by decide +kernel
theorem dX12_as_39 : decode cX12_as 39 = .ok (.if_icmp .eq 11, 3) := by decide +kernel
theorem dX12_as_42 : decode cX12_as 42 = .ok (.iload_n 2, 1) := by decide +kernel
theorem dX12_as_43 : decode cX12_as 43 = .ok (.iload_n 3, 1) := by decide +kernel
theorem dX12_as_44 : decode cX12_as 44 = .ok (.invokestatic 168, 3) := by decide +kernel
theorem dX12_as_47 : decode cX12_as 47 = .ok (.if_icmp .ne 12, 3) := by decide +kernel
theorem dX12_as_50 : decode cX12_as 50 = .ok (.aload_n 0, 1) := by decide +kernel
theorem dX12_as_51 : decode cX12_as 51 = .ok (.iload_n 1, 1) := by decide +kernel
theorem dX12_as_52 : decode cX12_as 52 = .ok (.iconst 1, 1) := by decide +kernel
theorem dX12_as_53 : decode cX12_as 53 = .ok (.invokevirtual 145, 3) := by decide +kernel
theorem dX12_as_56 : decode cX12_as 56 = .ok (.goto 8, 3) := by decide +kernel
theorem dX12_as_59 : decode cX12_as 59 = .ok (.aload_n 0, 1) := by decide +kernel
theorem dX12_as_60 : decode cX12_as 60 = .ok (.iconst 5, 1) := by decide +kernel
theorem dX12_as_61 : decode cX12_as 61 = .ok (.invokevirtual 121, 3) := by decide +kernel
theorem dX12_as_64 : decode cX12_as 64 = .ok (.ireturn, 1) := by decide +kernel
theorem dX12_shouts_0 : decode cX12_shouts 0 = .ok (.aload_n 0, 1) := by decide +kernel
theorem dX12_shouts_1 : decode cX12_shouts 1 = .ok (.getfield 7, 3) := by decide +kernel
theorem dX12_shouts_4 : decode cX12_shouts 4 = .ok (.iconst 5, 1) := by decide +kernel
theorem dX12_shouts_5 : decode cX12_shouts 5 = .ok (.iaload, 1) := by decide +kernel
theorem dX12_shouts_6 : decode cX12_shouts 6 = .ok (.istore 4, 2) := by decide +kernel
theorem dX12_shouts_8 : decode cX12_shouts 8 = .ok (.bipush 28, 2) := by decide +kernel
theorem dX12_shouts_10 : decode cX12_shouts 10 = .ok (.bipush 6, 2) := by decide +kernel
theorem dX12_shouts_12 : decode cX12_shouts 12 = .ok (.iload 4, 2) := by decide +kernel
theorem dX12_shouts_14 : decode cX12_shouts 14 = .ok (.imul, 1) := by decide +kernel
theorem dX12_shouts_15 : decode cX12_shouts 15 = .ok (.iadd, 1) := by decide +kernel
theorem dX12_shouts_16 : decode cX12_shouts 16 = .ok (.istore 5, 2) := by decide +kernel
theorem dX12_shouts_18 : decode cX12_shouts 18 = .ok (.aload_n 0, 1) := by decide +kernel
theorem dX12_shouts_19 : decode cX12_shouts 19 = .ok (.getfield 7, 3) := by decide +kernel
theorem dX12_shouts_22 : decode cX12_shouts 22 = .ok (.iload 5, 2) := by decide +kernel
theorem dX12_shouts_24 : decode cX12_shouts 24 = .ok (.iconst 0, 1) := by decide +kernel
theorem dX12_shouts_25 : decode cX12_shouts 25 = .ok (.iadd, 1) := by decide +kernel
theorem dX12_shouts_26 : decode cX12_shouts 26 = .ok (.aload_n 0, 1) := by decide +kernel
theorem dX12_shouts_27 : decode cX12_shouts 27 = .ok (.getfield 7, 3) := by decide +kernel
theorem dX12_shouts_30 : decode cX12_shouts 30 = .ok (.iconst 3, 1) := by decide +kernel
theorem dX12_shouts_31 : decode cX12_shouts 31 = .ok (.iaload, 1) := by decide +kernel
theorem dX12_shouts_32 : decode cX12_shouts 32 = .ok (.iastore, 1) := by decide +kernel
theorem dX12_shouts_33 : decode cX12_shouts 33 = .ok (.aload_n 0, 1) := by decide +kernel
theorem dX12_shouts_34 : decode cX12_shouts 34 = .ok (.getfield 7, 3) := by decide +kernel
theorem dX12_shouts_37 : decode cX12_shouts 37 = .ok (.iload 5, 2) := by decide +kernel
theorem dX12_shouts_39 : decode cX12_shouts 39 = .ok (.iconst 1, 1) := by decide +kernel
theorem dX12_shouts_40 : decode cX12_shouts 40 = .ok (.iadd, 1) := by decide +kernel
theorem dX12_shouts_41 : decode cX12_shouts 41 = .ok (.iload_n 1, 1) := by decide +kernel
theorem dX12_shouts_42 : decode cX12_shouts 42 = .ok (.iastore, 1) := by decide +kernel
theorem dX12_shouts_43 : decode cX12_shouts 43 = .ok (.aload_n 0, 1) := by decide +kernel
theorem dX12_shouts_44 : decode cX12_shouts 44 = .ok (.getfield 7, 3) := by decide +kernel
theorem dX12_shouts_47 : decode cX12_shouts 47 = .ok (.iload 5, 2) := by decide +kernel
theorem dX12_shouts_49 : decode cX12_shouts 49 = .ok (.iconst 2, 1) := by decide +kernel
theorem dX12_shouts_50 : decode cX12_shouts 50 = .ok (.iadd, 1) := by decide +kernel
theorem dX12_shouts_51 : decode cX12_shouts 51 = .ok (.aload_n 0, 1) := by decide +kernel
theorem dX12_shouts_52 : decode cX12_shouts 52 = .ok (.iload_n 1, 1) := by decide +kernel
theorem dX12_shouts_53 : decode cX12_shouts 53 = .ok (.iconst 2, 1) := by decide +kernel
theorem dX12_shouts_54 : decode cX12_shouts 54 = .ok (.invokevirtual 145, 3) := by decide +kernel
theorem dX12_shouts_57 : decode cX12_shouts 57 = .ok (.iastore, 1) := by decide +kernel
theorem dX12_shouts_58 : decode cX12_shouts 58 = .ok (.aload_n 0, 1) := by decide +kernel
theorem dX12_shouts_59 : decode cX12_shouts 59 = .ok (.getfield 7, 3) := by decide +kernel
theorem dX12_shouts_62 : decode cX12_shouts 62 = .ok (.iload 5, 2) := by decide +kernel
theorem dX12_shouts_64 : decode cX12_shouts 64 = .ok (.iconst 3, 1) := by decide +kernel
theorem dX12_shouts_65 : decode cX12_shouts 65 = .ok (.iadd, 1) := by decide +kernel
theorem dX12_shouts_66 : decode cX12_shouts 66 = .ok (.iload_n 2, 1) := by decide +kernel
theorem dX12_shouts_67 : decode cX12_shouts 67 = .ok (.iastore, 1) := by decide +kernel
theorem dX12_shouts_68 : decode cX12_shouts 68 = .ok (.aload_n 0, 1) := by decide +kernel
theorem dX12_shouts_69 : decode cX12_shouts 69 = .ok (.getfield 7, 3) := by decide +kernel
theorem dX12_shouts_72 : decode cX12_shouts 72 = .ok (.iload 5, 2) := by decide +kernel
theorem dX12_shouts_74 : decode cX12_shouts 74 = .ok (.iconst 4, 1) := by decide +kernel
theorem dX12_shouts_75 : decode cX12_shouts 75 = .ok (.iadd, 1) := by decide +kernel
theorem dX12_shouts_76 : decode cX12_shouts 76 = .ok (.iload_n 3, 1) := by decide +kernel
theorem dX12_shouts_77 : decode cX12_shouts 77 = .ok (.iastore, 1) := by decide +kernel
theorem dX12_shouts_78 : decode cX12_shouts 78 = .ok (.aload_n 0, 1) := by decide +kernel
theorem dX12_shouts_79 : decode cX12_shouts 79 = .ok (.getfield 7, 3) := by decide +kernel
theorem dX12_shouts_82 : decode cX12_shouts 82 = .ok (.iload 5, 2) := by decide +kernel
theorem dX12_shouts_84 : decode cX12_shouts 84 = .ok (.iconst 5, 1) := by decide +kernel
theorem dX12_shouts_85 : decode cX12_shouts 85 = .ok (.iadd, 1) := by decide +kernel
theorem dX12_shouts_86 : decode cX12_shouts 86 = .ok (.aload_n 0, 1) := by decide +kernel
theorem dX12_shouts_87 : decode cX12_shouts 87 = .ok (.getfield 7, 3) := by decide +kernel
theorem dX12_shouts_90 : decode cX12_shouts 90 = .ok (.iconst 3, 1) := by decide +kernel
theorem dX12_shouts_91 : decode cX12_shouts 91 = .ok (.iaload, 1) := by decide +kernel
theorem dX12_shouts_92 : decode cX12_shouts 92 = .ok (.aload_n 0, 1) := by decide +kernel
theorem dX12_shouts_93 : decode cX12_shouts 93 = .ok (.invokevirtual 171, 3) := by decide +kernel
theorem dX12_shouts_96 : decode cX12_shouts 96 = .ok (.iadd, 1) := by decide +kernel
theorem dX12_shouts_97 : decode cX12_shouts 97 = .ok (.iastore, 1) := by decide +kernel
theorem dX12_shouts_98 : decode cX12_shouts 98 = .ok (.aload_n 0, 1) := by decide +kernel
theorem dX12_shouts_99 : decode cX12_shouts 99 = .ok (.getfield 7, 3) := by decide +kernel
theorem dX12_shouts_102 : decode cX12_shouts 102 = .ok (.iconst 5, 1) := by decide +kernel
theorem dX12_shouts_103 : decode cX12_shouts 103 = .ok (.dup2, 1) := by decide +kernel
theorem dX12_shouts_104 : decode cX12_shouts 104 = .ok (.iaload, 1) := by decide +kernel
theorem dX12_shouts_105 : decode cX12_shouts 105 = .ok (.iconst 1, 1) := by decide +kernel
theorem dX12_shouts_106 : decode cX12_shouts 106 = .ok (.iadd, 1) := by decide +kernel
theorem dX12_shouts_107 : decode cX12_shouts 107 = .ok (.iastore, 1) := by decide +kernel
theorem dX12_shouts_108 : decode cX12_shouts 108 = .ok (.iload 4, 2) := by decide +kernel
theorem dX12_shouts_110 : decode cX12_shouts 110 = .ok (.ireturn, 1) := by decide +kernel
theorem dX12_shout_0 : decode cX12_shout 0 = .ok (.aload_n 0, 1) := by decide +kernel
theorem dX12_shout_1 : decode cX12_shout 1 = .ok (.iload_n 1, 1) := by decide +kernel
theorem dX12_shout_2 : decode cX12_shout 2 = .ok (.invokevirtual 149, 3) := by decide +kernel
theorem dX12_shout_5 : decode cX12_shout 5 = .ok (.ifCond .eq 10, 3) := by decide +kernel
theorem dX12_shout_8 : decode cX12_shout 8 = .ok (.iload_n 2, 1) := by decide +kernel
theorem dX12_shout_9 : decode cX12_shout 9 = .ok (.invokestatic 157, 3) := by decide +kernel
theorem dX12_shout_12 : decode cX12_shout 12 = .ok (.ifCond .ne 9, 3) := by decide +kernel
theorem dX12_shout_15 : decode cX12_shout 15 = .ok (.aload_n 0, 1) := by decide +kernel
theorem dX12_shout_16 : decode cX12_shout 16 = .ok (.iconst 1, 1) := by decide +kernel
theorem dX12_shout_17 : decode cX12_shout 17 = .ok (.invokevirtual 121, 3) := by decide +kernel
theorem dX12_shout_20 : decode cX12_shout 20 = .ok (.ireturn, 1) := by decide +kernel
theorem dX12_shout_21 : decode cX12_shout 21 = .ok (.aload_n 0, 1) := by decide +kernel
theorem dX12_shout_22 : decode cX12_shout 22 = .ok (.getfield 7, 3) := by decide +kernel
theorem dX12_shout_25 : decode cX12_shout 25 = .ok (.iconst 5, 1) := by decide +kernel
theorem dX12_shout_26 : decode cX12_shout 26 = .ok (.iaload, 1) := by decide +kernel
theorem dX12_shout_27 : decode cX12_shout 27 = .ok (.bipush 40, 2) := by decide +kernel
theorem dX12_shout_29 : decode cX12_shout 29 = .ok (.if_icmp .ne 11, 3) := by decide +kernel
theorem dX12_shout_32 : decode cX12_shout 32 = .ok (.aload_n 0, 1) := by decide +kernel
theorem dX12_shout_33 : decode cX12_shout 33 = .ok (.iconst 4, 1) := by decide +kernel
theorem dX12_shout_34 : decode cX12_shout 34 = .ok (.invokevirtual 121, 3) := by decide +kernel
theorem dX12_shout_37 : decode cX12_shout 37 = .ok (.goto 10, 3) := by decide +kernel
theorem dX12_shout_40 : decode cX12_shout 40 = .ok (.aload_n 0, 1) := by decide +kernel
theorem dX12_shout_41 : decode cX12_shout 41 = .ok (.iload_n 1, 1) := by decide +kernel
theorem dX12_shout_42 : decode cX12_shout 42 = .ok (.iload_n 2, 1) := by decide +kernel
theorem dX12_shout_43 : decode cX12_shout 43 = .ok (.iconst (-1), 1) := by decide +kernel
theorem dX12_shout_44 : decode cX12_shout 44 = .ok (.invokevirtual 174, 3) := by decide +kernel
theorem dX12_shout_47 : decode cX12_shout 47 = .ok (.ireturn, 1) := by decide +kernel
theorem dX12_ofShout_0 : decode cX12_ofShout 0 = .ok (.aload_n 0, 1) := by decide +kernel
theorem dX12_ofShout_1 : decode cX12_ofShout 1 = .ok (.iload_n 1, 1) := by decide +kernel
theorem dX12_ofShout_2 : decode cX12_ofShout 2 = .ok (.invokevirtual 177, 3) := by decide +kernel
theorem dX12_ofShout_5 : decode cX12_ofShout 5 = .ok (.ifCond .eq 24, 3) := by decide +kernel
theorem dX12_ofShout_8 : decode cX12_ofShout 8 = .ok (.iload_n 2, 1) := by decide +kernel
theorem dX12_ofShout_9 : decode cX12_ofShout 9 = .ok (.i2l, 1) := by decide +kernel
theorem dX12_ofShout_10 : decode cX12_ofShout 10 = .ok (.lconst 0, 1) := by decide +kernel
theorem dX12_ofShout_11 : decode cX12_ofShout 11 = .ok (.ldc2_w 180, 3) := by decide +kernel
theorem dX12_ofShout_14 : decode cX12_ofShout 14 = .ok (.invokestatic 56, 3) := by decide +kernel
theorem dX12_ofShout_17 : decode cX12_ofShout 17 = .ok (.ifCond .eq 12, 3) := by decide +kernel
theorem dX12_ofShout_20 : decode cX12_ofShout 20 = .ok (.aload_n 0, 1) := by decide +kernel
theorem dX12_ofShout_21 : decode cX12_ofShout 21 = .ok (.iload_n 1, 1) := by decide +kernel
theorem dX12_ofShout_22 : decode cX12_ofShout 22 = .ok (.iload_n 2, 1) := by decide +kernel
theorem dX12_ofShout_23 : decode cX12_ofShout 23 = .ok (.invokevirtual 182, 3) := by decide +kernel
theorem dX12_ofShout_26 : decode cX12_ofShout 26 = .ok (.goto 8, 3) := by decide +kernel
theorem dX12_ofShout_29 : decode cX12_ofShout 29 = .ok (.aload_n 0, 1) := by decide +kernel
theorem dX12_ofShout_30 : decode cX12_ofShout 30 = .ok (.iconst 1, 1) := by decide +kernel
theorem dX12_ofShout_31 : decode cX12_ofShout 31 = .ok (.invokevirtual 121, 3) := by decide +kernel
theorem dX12_ofShout_34 : decode cX12_ofShout 34 = .ok (.ireturn, 1) := by decide +kernel
theorem dX12_lead_0 : decode cX12_lead 0 = .ok (.aload_n 0, 1) := by decide +kernel
theorem dX12_lead_1 : decode cX12_lead 1 = .ok (.iload_n 1, 1) := by decide +kernel
theorem dX12_lead_2 : decode cX12_lead 2 = .ok (.invokevirtual 177, 3) := by decide +kernel
theorem dX12_lead_5 : decode cX12_lead 5 = .ok (.ifCond .eq 13, 3) := by decide +kernel
theorem dX12_lead_8 : decode cX12_lead 8 = .ok (.iload_n 2, 1) := by decide +kernel
theorem dX12_lead_9 : decode cX12_lead 9 = .ok (.i2l, 1) := by decide +kernel
theorem dX12_lead_10 : decode cX12_lead 10 = .ok (.lconst 0, 1) := by decide +kernel
theorem dX12_lead_11 : decode cX12_lead 11 = .ok (.lconst 1, 1) := by decide +kernel
theorem dX12_lead_12 : decode cX12_lead 12 = .ok (.invokestatic 56, 3) := by decide +kernel
theorem dX12_lead_15 : decode cX12_lead 15 = .ok (.ifCond .ne 9, 3) := by decide +kernel
theorem dX12_lead_18 : decode cX12_lead 18 = .ok (.aload_n 0, 1) := by decide +kernel
theorem dX12_lead_19 : decode cX12_lead 19 = .ok (.iconst 1, 1) := by decide +kernel
theorem dX12_lead_20 : decode cX12_lead 20 = .ok (.invokevirtual 121, 3) := by decide +kernel
theorem dX12_lead_23 : decode cX12_lead 23 = .ok (.ireturn, 1) := by decide +kernel
theorem dX12_lead_24 : decode cX12_lead 24 = .ok (.iload_n 1, 1) := by decide +kernel
theorem dX12_lead_25 : decode cX12_lead 25 = .ok (.istore_n 3, 1) := by decide +kernel
theorem dX12_lead_26 : decode cX12_lead 26 = .ok (.iconst 1, 1) := by decide +kernel
theorem dX12_lead_27 : decode cX12_lead 27 = .ok (.istore 4, 2) := by decide +kernel
theorem dX12_lead_29 : decode cX12_lead 29 = .ok (.aload_n 0, 1) := by decide +kernel
theorem dX12_lead_30 : decode cX12_lead 30 = .ok (.iload_n 3, 1) := by decide +kernel
theorem dX12_lead_31 : decode cX12_lead 31 = .ok (.iconst 4, 1) := by decide +kernel
theorem dX12_lead_32 : decode cX12_lead 32 = .ok (.invokevirtual 182, 3) := by decide +kernel
theorem dX12_lead_35 : decode cX12_lead 35 = .ok (.ifCond .lt 16, 3) := by decide +kernel
theorem dX12_lead_38 : decode cX12_lead 38 = .ok (.aload_n 0, 1) := by decide +kernel
theorem dX12_lead_39 : decode cX12_lead 39 = .ok (.iload_n 3, 1) := by decide +kernel
theorem dX12_lead_40 : decode cX12_lead 40 = .ok (.iconst 4, 1) := by decide +kernel
theorem dX12_lead_41 : decode cX12_lead 41 = .ok (.invokevirtual 182, 3) := by decide +kernel
theorem dX12_lead_44 : decode cX12_lead 44 = .ok (.istore_n 3, 1) := by decide +kernel
theorem dX12_lead_45 : decode cX12_lead 45 = .ok (.iinc 4 1, 3) := by decide +kernel
theorem dX12_lead_48 : decode cX12_lead 48 = .ok (.goto (-19), 3) := by decide +kernel
theorem dX12_lead_51 : decode cX12_lead 51 = .ok (.iload_n 2, 1) := by decide +kernel
theorem dX12_lead_52 : decode cX12_lead 52 = .ok (.ifCond .ne 7, 3) := by decide +kernel
theorem dX12_lead_55 : decode cX12_lead 55 = .ok (.iload_n 3, 1) := by decide +kernel
theorem dX12_lead_56 : decode cX12_lead 56 = .ok (.goto 5, 3) := by decide +kernel
theorem dX12_lead_59 : decode cX12_lead 59 = .ok (.iload 4, 2) := by decide +kernel
theorem dX12_lead_61 : decode cX12_lead 61 = .ok (.ireturn, 1) := by decide +kernel
theorem dX12_isTaught_0 : decode cX12_isTaught 0 = .ok (.iconst 0, 1) := by decide +kernel
theorem dX12_isTaught_1 : decode cX12_isTaught 1 = .ok (.istore_n 2, 1) := by decide +kernel
theorem dX12_isTaught_2 : decode cX12_isTaught 2 = .ok (.iload_n 2, 1) := by decide +kernel
theorem dX12_isTaught_3 : decode cX12_isTaught 3 = .ok (.aload_n 0, 1) := by decide +kernel
theorem dX12_isTaught_4 : decode cX12_isTaught 4 = .ok (.getfield 7, 3) := by decide +kernel
theorem dX12_isTaught_7 : decode cX12_isTaught 7 = .ok (.iconst 5, 1) := by decide +kernel
theorem dX12_isTaught_8 : decode cX12_isTaught 8 = .ok (.iaload, 1) := by decide +kernel
theorem dX12_isTaught_9 : decode cX12_isTaught 9 = .ok (.if_icmp .ge 53, 3) := by decide +kernel
theorem dX12_isTaught_12 : decode cX12_isTaught 12 = .ok (.aload_n 0, 1) := by decide +kernel
theorem dX12_isTaught_13 : decode cX12_isTaught 13 = .ok (.iload_n 2, 1) := by decide +kernel
theorem dX12_isTaught_14 : decode cX12_isTaught 14 = .ok (.iconst 4, 1) := by decide +kernel
theorem dX12_isTaught_15 : decode cX12_isTaught 15 = .ok (.invokevirtual 182, 3) := by decide +kernel
theorem dX12_isTaught_18 : decode cX12_isTaught 18 = .ok (.iload_n 1, 1) := by decide +kernel
theorem dX12_isTaught_19 : decode cX12_isTaught 19 = .ok (.if_icmp .ne 37, 3) := by decide +kernel
theorem dX12_isTaught_22 : decode cX12_isTaught 22 = .ok (.aload_n 0, 1) := by decide +kernel
theorem dX12_isTaught_23 : decode cX12_isTaught 23 = .ok (.iload_n 2, 1) := by decide +kernel
theorem dX12_isTaught_24 : decode cX12_isTaught 24 = .ok (.iconst 3, 1) := by decide +kernel
theorem dX12_isTaught_25 : decode cX12_isTaught 25 = .ok (.invokevirtual 182, 3) := by decide +kernel
theorem dX12_isTaught_28 : decode cX12_isTaught 28 = .ok (.aload_n 0, 1) := by decide +kernel
theorem dX12_isTaught_29 : decode cX12_isTaught 29 = .ok (.iload_n 1, 1) := by decide +kernel
theorem dX12_isTaught_30 : decode cX12_isTaught 30 = .ok (.iconst 3, 1) := by decide +kernel
theorem dX12_isTaught_31 : decode cX12_isTaught 31 = .ok (.invokevirtual 182, 3) := by decide +kernel
theorem dX12_isTaught_34 : decode cX12_isTaught 34 = .ok (.iconst 1, 1) := by decide +kernel
theorem dX12_isTaught_35 : decode cX12_isTaught 35 = .ok (.iadd, 1) := by decide +kernel
theorem dX12_isTaught_36 : decode cX12_isTaught 36 = .ok (.if_icmp .ne 20, 3) := by decide +kernel
theorem dX12_isTaught_39 : decode cX12_isTaught 39 = .ok (.aload_n 0, 1) := by decide +kernel
theorem dX12_isTaught_40 : decode cX12_isTaught 40 = .ok (.iload_n 2, 1) := by decide +kernel
theorem dX12_isTaught_41 : decode cX12_isTaught 41 = .ok (.iconst 5, 1) := by decide +kernel
theorem dX12_isTaught_42 : decode cX12_isTaught 42 = .ok (.invokevirtual 182, 3) := by decide +kernel
theorem dX12_isTaught_45 : decode cX12_isTaught 45 = .ok (.aload_n 0, 1) := by decide +kernel
theorem dX12_isTaught_46 : decode cX12_isTaught 46 = .ok (.getfield 7, 3) := by decide +kernel
theorem dX12_isTaught_49 : decode cX12_isTaught 49 = .ok (.iconst 3, 1) := by decide +kernel
theorem dX12_isTaught_50 : decode cX12_isTaught 50 = .ok (.iaload, 1) := by decide +kernel
theorem dX12_isTaught_51 : decode cX12_isTaught 51 = .ok (.if_icmp .ge 5, 3) := by decide +kernel
theorem dX12_isTaught_54 : decode cX12_isTaught 54 = .ok (.iconst 1, 1) := by decide +kernel
theorem dX12_isTaught_55 : decode cX12_isTaught 55 = .ok (.ireturn, 1) := by decide +kernel
theorem dX12_isTaught_56 : decode cX12_isTaught 56 = .ok (.iinc 2 1, 3) := by decide +kernel
theorem dX12_isTaught_59 : decode cX12_isTaught 59 = .ok (.goto (-57), 3) := by decide +kernel
theorem dX12_isTaught_62 : decode cX12_isTaught 62 = .ok (.iconst 0, 1) := by decide +kernel
theorem dX12_isTaught_63 : decode cX12_isTaught 63 = .ok (.ireturn, 1) := by decide +kernel
theorem dX12_taught_0 : decode cX12_taught 0 = .ok (.iconst 0, 1) := by decide +kernel
theorem dX12_taught_1 : decode cX12_taught 1 = .ok (.istore_n 1, 1) := by decide +kernel
theorem dX12_taught_2 : decode cX12_taught 2 = .ok (.iconst 0, 1) := by decide +kernel
theorem dX12_taught_3 : decode cX12_taught 3 = .ok (.istore_n 2, 1) := by decide +kernel
theorem dX12_taught_4 : decode cX12_taught 4 = .ok (.iload_n 2, 1) := by decide +kernel
theorem dX12_taught_5 : decode cX12_taught 5 = .ok (.aload_n 0, 1) := by decide +kernel
theorem dX12_taught_6 : decode cX12_taught 6 = .ok (.getfield 7, 3) := by decide +kernel
theorem dX12_taught_9 : decode cX12_taught 9 = .ok (.iconst 5, 1) := by decide +kernel
theorem dX12_taught_10 : decode cX12_taught 10 = .ok (.iaload, 1) := by decide +kernel
theorem dX12_taught_11 : decode cX12_taught 11 = .ok (.if_icmp .ge 36, 3) := by decide +kernel
theorem dX12_taught_14 : decode cX12_taught 14 = .ok (.iload_n 1, 1) := by decide +kernel
theorem dX12_taught_15 : decode cX12_taught 15 = .ok (.aload_n 0, 1) := by decide +kernel
theorem dX12_taught_16 : decode cX12_taught 16 = .ok (.iload_n 2, 1) := by decide +kernel
theorem dX12_taught_17 : decode cX12_taught 17 = .ok (.iconst 3, 1) := by decide +kernel
theorem dX12_taught_18 : decode cX12_taught 18 = .ok (.invokevirtual 182, 3) := by decide +kernel
theorem dX12_taught_21 : decode cX12_taught 21 = .ok (.iconst 2, 1) := by decide +kernel
theorem dX12_taught_22 : decode cX12_taught 22 = .ok (.irem, 1) := by decide +kernel
theorem dX12_taught_23 : decode cX12_taught 23 = .ok (.ifCond .ne 15, 3) := by decide +kernel
theorem dX12_taught_26 : decode cX12_taught 26 = .ok (.aload_n 0, 1) := by decide +kernel
theorem dX12_taught_27 : decode cX12_taught 27 = .ok (.iload_n 2, 1) := by decide +kernel
theorem dX12_taught_28 : decode cX12_taught 28 = .ok (.invokevirtual 185, 3) := by decide +kernel
theorem dX12_taught_31 : decode cX12_taught 31 = .ok (.ifCond .eq 7, 3) := by decide +kernel
theorem dX12_taught_34 : decode cX12_taught 34 = .ok (.iconst 1, 1) := by decide +kernel
theorem dX12_taught_35 : decode cX12_taught 35 = .ok (.goto 4, 3) := by decide +kernel
theorem dX12_taught_38 : decode cX12_taught 38 = .ok (.iconst 0, 1) := by decide +kernel
theorem dX12_taught_39 : decode cX12_taught 39 = .ok (.iadd, 1) := by decide +kernel
theorem dX12_taught_40 : decode cX12_taught 40 = .ok (.istore_n 1, 1) := by decide +kernel
theorem dX12_taught_41 : decode cX12_taught 41 = .ok (.iinc 2 1, 3) := by decide +kernel
theorem dX12_taught_44 : decode cX12_taught 44 = .ok (.goto (-40), 3) := by decide +kernel
theorem dX12_taught_47 : decode cX12_taught 47 = .ok (.iload_n 1, 1) := by decide +kernel
theorem dX12_taught_48 : decode cX12_taught 48 = .ok (.ireturn, 1) := by decide +kernel
theorem dX12_forget_0 : decode cX12_forget 0 = .ok (.aload_n 0, 1) := by decide +kernel
theorem dX12_forget_1 : decode cX12_forget 1 = .ok (.getfield 7, 3) := by decide +kernel
theorem dX12_forget_4 : decode cX12_forget 4 = .ok (.iconst 5, 1) := by decide +kernel
theorem dX12_forget_5 : decode cX12_forget 5 = .ok (.iaload, 1) := by decide +kernel
theorem dX12_forget_6 : decode cX12_forget 6 = .ok (.istore_n 1, 1) := by decide +kernel
theorem dX12_forget_7 : decode cX12_forget 7 = .ok (.aload_n 0, 1) := by decide +kernel
theorem dX12_forget_8 : decode cX12_forget 8 = .ok (.getfield 7, 3) := by decide +kernel
theorem dX12_forget_11 : decode cX12_forget 11 = .ok (.iconst 5, 1) := by decide +kernel
theorem dX12_forget_12 : decode cX12_forget 12 = .ok (.iconst 0, 1) := by decide +kernel
theorem dX12_forget_13 : decode cX12_forget 13 = .ok (.iastore, 1) := by decide +kernel
theorem dX12_forget_14 : decode cX12_forget 14 = .ok (.aload_n 0, 1) := by decide +kernel
theorem dX12_forget_15 : decode cX12_forget 15 = .ok (.getfield 7, 3) := by decide +kernel
theorem dX12_forget_18 : decode cX12_forget 18 = .ok (.bipush 6, 2) := by decide +kernel
theorem dX12_forget_20 : decode cX12_forget 20 = .ok (.iconst 0, 1) := by decide +kernel
theorem dX12_forget_21 : decode cX12_forget 21 = .ok (.iastore, 1) := by decide +kernel
theorem dX12_forget_22 : decode cX12_forget 22 = .ok (.iload_n 1, 1) := by decide +kernel
theorem dX12_forget_23 : decode cX12_forget 23 = .ok (.ireturn, 1) := by decide +kernel
theorem dX12_drawn_0 : decode cX12_drawn 0 = .ok (.aload_n 0, 1) := by decide +kernel
theorem dX12_drawn_1 : decode cX12_drawn 1 = .ok (.getfield 7, 3) := by decide +kernel
theorem dX12_drawn_4 : decode cX12_drawn 4 = .ok (.bipush 7, 2) := by decide +kernel
theorem dX12_drawn_6 : decode cX12_drawn 6 = .ok (.aload_n 0, 1) := by decide +kernel
theorem dX12_drawn_7 : decode cX12_drawn 7 = .ok (.getfield 7, 3) := by decide +kernel
theorem dX12_drawn_10 : decode cX12_drawn 10 = .ok (.bipush 7, 2) := by decide +kernel
theorem dX12_drawn_12 : decode cX12_drawn 12 = .ok (.iaload, 1) := by decide +kernel
theorem dX12_drawn_13 : decode cX12_drawn 13 = .ok (.ldc 188, 2) := by decide +kernel
theorem dX12_drawn_15 : decode cX12_drawn 15 = .ok (.imul, 1) := by decide +kernel
theorem dX12_drawn_16 : decode cX12_drawn 16 = .ok (.sipush 12345, 3) := by decide +kernel
theorem dX12_drawn_19 : decode cX12_drawn 19 = .ok (.iadd, 1) := by decide +kernel
theorem dX12_drawn_20 : decode cX12_drawn 20 = .ok (.iastore, 1) := by decide +kernel
theorem dX12_drawn_21 : decode cX12_drawn 21 = .ok (.aload_n 0, 1) := by decide +kernel
theorem dX12_drawn_22 : decode cX12_drawn 22 = .ok (.getfield 7, 3) := by decide +kernel
theorem dX12_drawn_25 : decode cX12_drawn 25 = .ok (.bipush 7, 2) := by decide +kernel
theorem dX12_drawn_27 : decode cX12_drawn 27 = .ok (.iaload, 1) := by decide +kernel
theorem dX12_drawn_28 : decode cX12_drawn 28 = .ok (.bipush 8, 2) := by decide +kernel
theorem dX12_drawn_30 : decode cX12_drawn 30 = .ok (.iushr, 1) := by decide +kernel
theorem dX12_drawn_31 : decode cX12_drawn 31 = .ok (.ireturn, 1) := by decide +kernel
theorem dX12_quickest_0 : decode cX12_quickest 0 = .ok (.iconst (-1), 1) := by decide +kernel
theorem dX12_quickest_1 : decode cX12_quickest 1 = .ok (.istore_n 2, 1) := by decide +kernel
theorem dX12_quickest_2 : decode cX12_quickest 2 = .ok (.iconst 0, 1) := by decide +kernel
theorem dX12_quickest_3 : decode cX12_quickest 3 = .ok (.istore_n 3, 1) := by decide +kernel
theorem dX12_quickest_4 : decode cX12_quickest 4 = .ok (.iload_n 3, 1) := by decide +kernel
theorem dX12_quickest_5 : decode cX12_quickest 5 = .ok (.aload_n 0, 1) := by decide +kernel
theorem dX12_quickest_6 : decode cX12_quickest 6 = .ok (.getfield 7, 3) := by decide +kernel
theorem dX12_quickest_9 : decode cX12_quickest 9 = .ok (.iconst 4, 1) := by decide +kernel
theorem dX12_quickest_10 : decode cX12_quickest 10 = .ok (.iaload, 1) := by decide +kernel
theorem dX12_quickest_11 : decode cX12_quickest 11 = .ok (.if_icmp .ge 38, 3) := by decide +kernel
theorem dX12_quickest_14 : decode cX12_quickest 14 = .ok (.aload_n 0, 1) := by decide +kernel
theorem dX12_quickest_15 : decode cX12_quickest 15 = .ok (.iload_n 3, 1) := by decide +kernel
theorem dX12_quickest_16 : decode cX12_quickest 16 = .ok (.iconst 2, 1) := by decide +kernel
theorem dX12_quickest_17 : decode cX12_quickest 17 = .ok (.invokevirtual 145, 3) := by decide +kernel
theorem dX12_quickest_20 : decode cX12_quickest 20 = .ok (.iload_n 1, 1) := by decide +kernel
theorem dX12_quickest_21 : decode cX12_quickest 21 = .ok (.if_icmp .ne 22, 3) := by decide +kernel
theorem dX12_quickest_24 : decode cX12_quickest 24 = .ok (.iload_n 2, 1) := by decide +kernel
theorem dX12_quickest_25 : decode cX12_quickest 25 = .ok (.ifCond .lt 16, 3) := by decide +kernel
theorem dX12_quickest_28 : decode cX12_quickest 28 = .ok (.aload_n 0, 1) := by decide +kernel
theorem dX12_quickest_29 : decode cX12_quickest 29 = .ok (.iload_n 3, 1) := by decide +kernel
theorem dX12_quickest_30 : decode cX12_quickest 30 = .ok (.invokevirtual 154, 3) := by decide +kernel
theorem dX12_quickest_33 : decode cX12_quickest 33 = .ok (.aload_n 0, 1) := by decide +kernel
theorem dX12_quickest_34 : decode cX12_quickest 34 = .ok (.iload_n 2, 1) := by decide +kernel
theorem dX12_quickest_35 : decode cX12_quickest 35 = .ok (.invokevirtual 154, 3) := by decide +kernel
theorem dX12_quickest_38 : decode cX12_quickest 38 = .ok (.if_icmp .ge 5, 3) := by decide +kernel
theorem dX12_quickest_41 : decode cX12_quickest 41 = .ok (.iload_n 3, 1) := by decide +kernel
theorem dX12_quickest_42 : decode cX12_quickest 42 = .ok (.istore_n 2, 1) := by decide +kernel
theorem dX12_quickest_43 : decode cX12_quickest 43 = .ok (.iinc 3 1, 3) := by decide +kernel
theorem dX12_quickest_46 : decode cX12_quickest 46 = .ok (.goto (-42), 3) := by decide +kernel
theorem dX12_quickest_49 : decode cX12_quickest 49 = .ok (.iload_n 2, 1) := by decide +kernel
theorem dX12_quickest_50 : decode cX12_quickest 50 = .ok (.ireturn, 1) := by decide +kernel
theorem dX12_comesOver_0 : decode cX12_comesOver 0 = .ok (.aload_n 0, 1) := by decide +kernel
theorem dX12_comesOver_1 : decode cX12_comesOver 1 = .ok (.iload_n 1, 1) := by decide +kernel
theorem dX12_comesOver_2 : decode cX12_comesOver 2 = .ok (.iconst 3, 1) := by decide +kernel
theorem dX12_comesOver_3 : decode cX12_comesOver 3 = .ok (.invokevirtual 182, 3) := by decide +kernel
theorem dX12_comesOver_6 : decode cX12_comesOver 6 = .ok (.istore_n 3, 1) := by decide +kernel
theorem dX12_comesOver_7 : decode cX12_comesOver 7 = .ok (.aload_n 0, 1) := by decide +kernel
theorem dX12_comesOver_8 : decode cX12_comesOver 8 = .ok (.aload_n 0, 1) := by decide +kernel
theorem dX12_comesOver_9 : decode cX12_comesOver 9 = .ok (.iload_n 1, 1) := by decide +kernel
theorem dX12_comesOver_10 : decode cX12_comesOver 10 = .ok (.iconst 1, 1) := by decide +kernel
theorem dX12_comesOver_11 : decode cX12_comesOver 11 = .ok (.invokevirtual 182, 3) := by decide +kernel
theorem dX12_comesOver_14 : decode cX12_comesOver 14 = .ok (.iload_n 3, 1) := by decide +kernel
theorem dX12_comesOver_15 : decode cX12_comesOver 15 = .ok (.invokevirtual 160, 3) := by decide +kernel
theorem dX12_comesOver_18 : decode cX12_comesOver 18 = .ok (.istore 4, 2) := by decide +kernel
theorem dX12_comesOver_20 : decode cX12_comesOver 20 = .ok (.iload_n 2, 1) := by decide +kernel
theorem dX12_comesOver_21 : decode cX12_comesOver 21 = .ok (.ifCond .eq 23, 3) := by decide +kernel
theorem dX12_comesOver_24 : decode cX12_comesOver 24 = .ok (.aload_n 0, 1) := by decide +kernel
theorem dX12_comesOver_25 : decode cX12_comesOver 25 = .ok (.invokevirtual 189, 3) := by decide +kernel
theorem dX12_comesOver_28 : decode cX12_comesOver 28 = .ok (.bipush 10, 2) := by decide +kernel
theorem dX12_comesOver_30 : decode cX12_comesOver 30 = .ok (.irem, 1) := by decide +kernel
theorem dX12_comesOver_31 : decode cX12_comesOver 31 = .ok (.iload 4, 2) := by decide +kernel
theorem dX12_comesOver_33 : decode cX12_comesOver 33 = .ok (.if_icmp .ge 7, 3) := by decide +kernel
theorem dX12_comesOver_36 : decode cX12_comesOver 36 = .ok (.iconst 1, 1) := by decide +kernel
theorem dX12_comesOver_37 : decode cX12_comesOver 37 = .ok (.goto 18, 3) := by decide +kernel
theorem dX12_comesOver_40 : decode cX12_comesOver 40 = .ok (.iconst 0, 1) := by decide +kernel
theorem dX12_comesOver_41 : decode cX12_comesOver 41 = .ok (.goto 14, 3) := by decide +kernel
theorem dX12_comesOver_44 : decode cX12_comesOver 44 = .ok (.iload 4, 2) := by decide +kernel
theorem dX12_comesOver_46 : decode cX12_comesOver 46 = .ok (.iconst 5, 1) := by decide +kernel
theorem dX12_comesOver_47 : decode cX12_comesOver 47 = .ok (.if_icmp .lt 7, 3) := by decide +kernel
theorem dX12_comesOver_50 : decode cX12_comesOver 50 = .ok (.iconst 1, 1) := by decide +kernel
theorem dX12_comesOver_51 : decode cX12_comesOver 51 = .ok (.goto 4, 3) := by decide +kernel
theorem dX12_comesOver_54 : decode cX12_comesOver 54 = .ok (.iconst 0, 1) := by decide +kernel
theorem dX12_comesOver_55 : decode cX12_comesOver 55 = .ok (.istore 5, 2) := by decide +kernel
theorem dX12_comesOver_57 : decode cX12_comesOver 57 = .ok (.aload_n 0, 1) := by decide +kernel
theorem dX12_comesOver_58 : decode cX12_comesOver 58 = .ok (.iconst 1, 1) := by decide +kernel
theorem dX12_comesOver_59 : decode cX12_comesOver 59 = .ok (.aload_n 0, 1) := by decide +kernel
theorem dX12_comesOver_60 : decode cX12_comesOver 60 = .ok (.iload_n 1, 1) := by decide +kernel
theorem dX12_comesOver_61 : decode cX12_comesOver 61 = .ok (.iconst 2, 1) := by decide +kernel
theorem dX12_comesOver_62 : decode cX12_comesOver 62 = .ok (.invokevirtual 182, 3) := by decide +kernel
theorem dX12_comesOver_65 : decode cX12_comesOver 65 = .ok (.isub, 1) := by decide +kernel
theorem dX12_comesOver_66 : decode cX12_comesOver 66 = .ok (.invokevirtual 192, 3) := by decide +kernel
theorem dX12_comesOver_69 : decode cX12_comesOver 69 = .ok (.istore 6, 2) := by decide +kernel
theorem dX12_comesOver_71 : decode cX12_comesOver 71 = .ok (.iload 5, 2) := by decide +kernel
theorem dX12_comesOver_73 : decode cX12_comesOver 73 = .ok (.ifCond .eq 109, 3) := by decide +kernel
theorem dX12_comesOver_76 : decode cX12_comesOver 76 = .ok (.iload_n 3, 1) := by decide +kernel
theorem dX12_comesOver_77 : decode cX12_comesOver 77 = .ok (.iconst 2, 1) := by decide +kernel
theorem dX12_comesOver_78 : decode cX12_comesOver 78 = .ok (.irem, 1) := by decide +kernel
theorem dX12_comesOver_79 : decode cX12_comesOver 79 = .ok (.ifCond .ne 103, 3) := by decide +kernel
theorem dX12_comesOver_82 : decode cX12_comesOver 82 = .ok (.iload 6, 2) := by decide +kernel
theorem dX12_comesOver_84 : decode cX12_comesOver 84 = .ok (.ifCond .lt 98, 3) := by decide +kernel
theorem dX12_comesOver_87 : decode cX12_comesOver 87 = .ok (.aload_n 0, 1) := by decide +kernel
theorem dX12_comesOver_88 : decode cX12_comesOver 88 = .ok (.getfield 7, 3) := by decide +kernel
theorem dX12_comesOver_91 : decode cX12_comesOver 91 = .ok (.bipush 6, 2) := by decide +kernel
theorem dX12_comesOver_93 : decode cX12_comesOver 93 = .ok (.iaload, 1) := by decide +kernel
theorem dX12_comesOver_94 : decode cX12_comesOver 94 = .ok (.bipush 12, 2) := by decide +kernel
theorem dX12_comesOver_96 : decode cX12_comesOver 96 = .ok (.if_icmp .ge 86, 3) := by decide +kernel
theorem dX12_comesOver_99 : decode cX12_comesOver 99 = .ok (.sipush 268, 3) := by decide +kernel
theorem dX12_comesOver_102 : decode cX12_comesOver 102 = .ok (.iconst 4, 1) := by decide +kernel
theorem dX12_comesOver_103 : decode cX12_comesOver 103 = .ok (.aload_n 0, 1) := by decide +kernel
theorem dX12_comesOver_104 : decode cX12_comesOver 104 = .ok (.getfield 7, 3) := by decide +kernel
theorem dX12_comesOver_107 : decode cX12_comesOver 107 = .ok (.bipush 6, 2) := by decide +kernel
theorem dX12_comesOver_109 : decode cX12_comesOver 109 = .ok (.iaload, 1) := by decide +kernel
theorem dX12_comesOver_110 : decode cX12_comesOver 110 = .ok (.imul, 1) := by decide +kernel
theorem dX12_comesOver_111 : decode cX12_comesOver 111 = .ok (.iadd, 1) := by decide +kernel
theorem dX12_comesOver_112 : decode cX12_comesOver 112 = .ok (.istore 7, 2) := by decide +kernel
theorem dX12_comesOver_114 : decode cX12_comesOver 114 = .ok (.aload_n 0, 1) := by decide +kernel
theorem dX12_comesOver_115 : decode cX12_comesOver 115 = .ok (.getfield 7, 3) := by decide +kernel
theorem dX12_comesOver_118 : decode cX12_comesOver 118 = .ok (.iload 7, 2) := by decide +kernel
theorem dX12_comesOver_120 : decode cX12_comesOver 120 = .ok (.iload 6, 2) := by decide +kernel
theorem dX12_comesOver_122 : decode cX12_comesOver 122 = .ok (.iastore, 1) := by decide +kernel
theorem dX12_comesOver_123 : decode cX12_comesOver 123 = .ok (.aload_n 0, 1) := by decide +kernel
theorem dX12_comesOver_124 : decode cX12_comesOver 124 = .ok (.getfield 7, 3) := by decide +kernel
theorem dX12_comesOver_127 : decode cX12_comesOver 127 = .ok (.iload 7, 2) := by decide +kernel
theorem dX12_comesOver_129 : decode cX12_comesOver 129 = .ok (.iconst 1, 1) := by decide +kernel
theorem dX12_comesOver_130 : decode cX12_comesOver 130 = .ok (.iadd, 1) := by decide +kernel
theorem dX12_comesOver_131 : decode cX12_comesOver 131 = .ok (.aload_n 0, 1) := by decide +kernel
theorem dX12_comesOver_132 : decode cX12_comesOver 132 = .ok (.iload 6, 2) := by decide +kernel
theorem dX12_comesOver_134 : decode cX12_comesOver 134 = .ok (.iload_n 3, 1) := by decide +kernel
theorem dX12_comesOver_135 : decode cX12_comesOver 135 = .ok (.invokevirtual 163, 3) := by decide +kernel
theorem dX12_comesOver_138 : decode cX12_comesOver 138 = .ok (.iastore, 1) := by decide +kernel
theorem dX12_comesOver_139 : decode cX12_comesOver 139 = .ok (.aload_n 0, 1) := by decide +kernel
theorem dX12_comesOver_140 : decode cX12_comesOver 140 = .ok (.getfield 7, 3) := by decide +kernel
theorem dX12_comesOver_143 : decode cX12_comesOver 143 = .ok (.iload 7, 2) := by decide +kernel
theorem dX12_comesOver_145 : decode cX12_comesOver 145 = .ok (.iconst 2, 1) := by decide +kernel
theorem dX12_comesOver_146 : decode cX12_comesOver 146 = .ok (.iadd, 1) := by decide +kernel
theorem dX12_comesOver_147 : decode cX12_comesOver 147 = .ok (.iload_n 1, 1) := by decide +kernel
theorem dX12_comesOver_148 : decode cX12_comesOver 148 = .ok (.iastore, 1) := by decide +kernel
theorem dX12_comesOver_149 : decode cX12_comesOver 149 = .ok (.aload_n 0, 1) := by decide +kernel
theorem dX12_comesOver_150 : decode cX12_comesOver 150 = .ok (.getfield 7, 3) := by decide +kernel
theorem dX12_comesOver_153 : decode cX12_comesOver 153 = .ok (.iload 7, 2) := by decide +kernel
theorem dX12_comesOver_155 : decode cX12_comesOver 155 = .ok (.iconst 3, 1) := by decide +kernel
theorem dX12_comesOver_156 : decode cX12_comesOver 156 = .ok (.iadd, 1) := by decide +kernel
theorem dX12_comesOver_157 : decode cX12_comesOver 157 = .ok (.aload_n 0, 1) := by decide +kernel
theorem dX12_comesOver_158 : decode cX12_comesOver 158 = .ok (.getfield 7, 3) := by decide +kernel
theorem dX12_comesOver_161 : decode cX12_comesOver 161 = .ok (.iconst 3, 1) := by decide +kernel
theorem dX12_comesOver_162 : decode cX12_comesOver 162 = .ok (.iaload, 1) := by decide +kernel
theorem dX12_comesOver_163 : decode cX12_comesOver 163 = .ok (.aload_n 0, 1) := by decide +kernel
theorem dX12_comesOver_164 : decode cX12_comesOver 164 = .ok (.iload 6, 2) := by decide +kernel
theorem dX12_comesOver_166 : decode cX12_comesOver 166 = .ok (.invokevirtual 154, 3) := by decide +kernel
theorem dX12_comesOver_169 : decode cX12_comesOver 169 = .ok (.iadd, 1) := by decide +kernel
theorem dX12_comesOver_170 : decode cX12_comesOver 170 = .ok (.iastore, 1) := by decide +kernel
theorem dX12_comesOver_171 : decode cX12_comesOver 171 = .ok (.aload_n 0, 1) := by decide +kernel
theorem dX12_comesOver_172 : decode cX12_comesOver 172 = .ok (.getfield 7, 3) := by decide +kernel
theorem dX12_comesOver_175 : decode cX12_comesOver 175 = .ok (.bipush 6, 2) := by decide +kernel
theorem dX12_comesOver_177 : decode cX12_comesOver 177 = .ok (.dup2, 1) := by decide +kernel
theorem dX12_comesOver_178 : decode cX12_comesOver 178 = .ok (.iaload, 1) := by decide +kernel
theorem dX12_comesOver_179 : decode cX12_comesOver 179 = .ok (.iconst 1, 1) := by decide +kernel
theorem dX12_comesOver_180 : decode cX12_comesOver 180 = .ok (.iadd, 1) := by decide +kernel
theorem dX12_comesOver_181 : decode cX12_comesOver 181 = .ok (.iastore, 1) := by decide +kernel
theorem dX12_comesOver_182 : decode cX12_comesOver 182 = .ok (.return_, 1) := by decide +kernel
theorem dX12_answers_0 : decode cX12_answers 0 = .ok (.iconst 0, 1) := by decide +kernel
theorem dX12_answers_1 : decode cX12_answers 1 = .ok (.istore_n 1, 1) := by decide +kernel
theorem dX12_answers_2 : decode cX12_answers 2 = .ok (.aload_n 0, 1) := by decide +kernel
theorem dX12_answers_3 : decode cX12_answers 3 = .ok (.getfield 7, 3) := by decide +kernel
theorem dX12_answers_6 : decode cX12_answers 6 = .ok (.bipush 6, 2) := by decide +kernel
theorem dX12_answers_8 : decode cX12_answers 8 = .ok (.iaload, 1) := by decide +kernel
theorem dX12_answers_9 : decode cX12_answers 9 = .ok (.istore_n 2, 1) := by decide +kernel
theorem dX12_answers_10 : decode cX12_answers 10 = .ok (.iconst 0, 1) := by decide +kernel
theorem dX12_answers_11 : decode cX12_answers 11 = .ok (.istore_n 3, 1) := by decide +kernel
theorem dX12_answers_12 : decode cX12_answers 12 = .ok (.iload_n 3, 1) := by decide +kernel
theorem dX12_answers_13 : decode cX12_answers 13 = .ok (.iload_n 2, 1) := by decide +kernel
theorem dX12_answers_14 : decode cX12_answers 14 = .ok (.if_icmp .ge 124, 3) := by decide +kernel
theorem dX12_answers_17 : decode cX12_answers 17 = .ok (.sipush 268, 3) := by decide +kernel
theorem dX12_answers_20 : decode cX12_answers 20 = .ok (.iconst 4, 1) := by decide +kernel
theorem dX12_answers_21 : decode cX12_answers 21 = .ok (.iload_n 3, 1) := by decide +kernel
theorem dX12_answers_22 : decode cX12_answers 22 = .ok (.imul, 1) := by decide +kernel
theorem dX12_answers_23 : decode cX12_answers 23 = .ok (.iadd, 1) := by decide +kernel
theorem dX12_answers_24 : decode cX12_answers 24 = .ok (.istore 4, 2) := by decide +kernel
theorem dX12_answers_26 : decode cX12_answers 26 = .ok (.aload_n 0, 1) := by decide +kernel
theorem dX12_answers_27 : decode cX12_answers 27 = .ok (.getfield 7, 3) := by decide +kernel
theorem dX12_answers_30 : decode cX12_answers 30 = .ok (.iload 4, 2) := by decide +kernel
theorem dX12_answers_32 : decode cX12_answers 32 = .ok (.iconst 3, 1) := by decide +kernel
theorem dX12_answers_33 : decode cX12_answers 33 = .ok (.iadd, 1) := by decide +kernel
theorem dX12_answers_34 : decode cX12_answers 34 = .ok (.iaload, 1) := by decide +kernel
theorem dX12_answers_35 : decode cX12_answers 35 = .ok (.aload_n 0, 1) := by decide +kernel
theorem dX12_answers_36 : decode cX12_answers 36 = .ok (.getfield 7, 3) := by decide +kernel
theorem dX12_answers_39 : decode cX12_answers 39 = .ok (.iconst 3, 1) := by decide +kernel
theorem dX12_answers_40 : decode cX12_answers 40 = .ok (.iaload, 1) := by decide +kernel
theorem dX12_answers_41 : decode cX12_answers 41 = .ok (.if_icmp .le 49, 3) := by decide +kernel
theorem dX12_answers_44 : decode cX12_answers 44 = .ok (.iconst 0, 1) := by decide +kernel
theorem dX12_answers_45 : decode cX12_answers 45 = .ok (.istore 5, 2) := by decide +kernel
theorem dX12_answers_47 : decode cX12_answers 47 = .ok (.iload 5, 2) := by decide +kernel
theorem dX12_answers_49 : decode cX12_answers 49 = .ok (.iconst 4, 1) := by decide +kernel
theorem dX12_answers_50 : decode cX12_answers 50 = .ok (.if_icmp .ge 34, 3) := by decide +kernel
theorem dX12_answers_53 : decode cX12_answers 53 = .ok (.aload_n 0, 1) := by decide +kernel
theorem dX12_answers_54 : decode cX12_answers 54 = .ok (.getfield 7, 3) := by decide +kernel
theorem dX12_answers_57 : decode cX12_answers 57 = .ok (.sipush 268, 3) := by decide +kernel
theorem dX12_answers_60 : decode cX12_answers 60 = .ok (.iconst 4, 1) := by decide +kernel
theorem dX12_answers_61 : decode cX12_answers 61 = .ok (.iload_n 1, 1) := by decide +kernel
theorem dX12_answers_62 : decode cX12_answers 62 = .ok (.imul, 1) := by decide +kernel
theorem dX12_answers_63 : decode cX12_answers 63 = .ok (.iadd, 1) := by decide +kernel
theorem dX12_answers_64 : decode cX12_answers 64 = .ok (.iload 5, 2) := by decide +kernel
theorem dX12_answers_66 : decode cX12_answers 66 = .ok (.iadd, 1) := by decide +kernel
theorem dX12_answers_67 : decode cX12_answers 67 = .ok (.aload_n 0, 1) := by decide +kernel
theorem dX12_answers_68 : decode cX12_answers 68 = .ok (.getfield 7, 3) := by decide +kernel
theorem dX12_answers_71 : decode cX12_answers 71 = .ok (.iload 4, 2) := by decide +kernel
theorem dX12_answers_73 : decode cX12_answers 73 = .ok (.iload 5, 2) := by decide +kernel
theorem dX12_answers_75 : decode cX12_answers 75 = .ok (.iadd, 1) := by decide +kernel
theorem dX12_answers_76 : decode cX12_answers 76 = .ok (.iaload, 1) := by decide +kernel
theorem dX12_answers_77 : decode cX12_answers 77 = .ok (.iastore, 1) := by decide +kernel
theorem dX12_answers_78 : decode cX12_answers 78 = .ok (.iinc 5 1, 3) := by decide +kernel
theorem dX12_answers_81 : decode cX12_answers 81 = .ok (.goto (-34), 3) := by decide +kernel
theorem dX12_answers_84 : decode cX12_answers 84 = .ok (.iinc 1 1, 3) := by decide +kernel
theorem dX12_answers_87 : decode cX12_answers 87 = .ok (.goto 45, 3) := by decide +kernel
theorem dX12_answers_90 : decode cX12_answers 90 = .ok (.aload_n 0, 1) := by decide +kernel
theorem dX12_answers_91 : decode cX12_answers 91 = .ok (.getfield 7, 3) := by decide +kernel
theorem dX12_answers_94 : decode cX12_answers 94 = .ok (.iconst 5, 1) := by decide +kernel
theorem dX12_answers_95 : decode cX12_answers 95 = .ok (.iaload, 1) := by decide +kernel
theorem dX12_answers_96 : decode cX12_answers 96 = .ok (.bipush 40, 2) := by decide +kernel
theorem dX12_answers_98 : decode cX12_answers 98 = .ok (.if_icmp .ge 34, 3) := by decide +kernel
theorem dX12_answers_101 : decode cX12_answers 101 = .ok (.aload_n 0, 1) := by decide +kernel
theorem dX12_answers_102 : decode cX12_answers 102 = .ok (.aload_n 0, 1) := by decide +kernel
theorem dX12_answers_103 : decode cX12_answers 103 = .ok (.getfield 7, 3) := by decide +kernel
theorem dX12_answers_106 : decode cX12_answers 106 = .ok (.iload 4, 2) := by decide +kernel
theorem dX12_answers_108 : decode cX12_answers 108 = .ok (.iaload, 1) := by decide +kernel
theorem dX12_answers_109 : decode cX12_answers 109 = .ok (.aload_n 0, 1) := by decide +kernel
theorem dX12_answers_110 : decode cX12_answers 110 = .ok (.getfield 7, 3) := by decide +kernel
theorem dX12_answers_113 : decode cX12_answers 113 = .ok (.iload 4, 2) := by decide +kernel
theorem dX12_answers_115 : decode cX12_answers 115 = .ok (.iconst 1, 1) := by decide +kernel
theorem dX12_answers_116 : decode cX12_answers 116 = .ok (.iadd, 1) := by decide +kernel
theorem dX12_answers_117 : decode cX12_answers 117 = .ok (.iaload, 1) := by decide +kernel
theorem dX12_answers_118 : decode cX12_answers 118 = .ok (.aload_n 0, 1) := by decide +kernel
theorem dX12_answers_119 : decode cX12_answers 119 = .ok (.getfield 7, 3) := by decide +kernel
theorem dX12_answers_122 : decode cX12_answers 122 = .ok (.iload 4, 2) := by decide +kernel
theorem dX12_answers_124 : decode cX12_answers 124 = .ok (.iconst 2, 1) := by decide +kernel
theorem dX12_answers_125 : decode cX12_answers 125 = .ok (.iadd, 1) := by decide +kernel
theorem dX12_answers_126 : decode cX12_answers 126 = .ok (.iaload, 1) := by decide +kernel
theorem dX12_answers_127 : decode cX12_answers 127 = .ok (.invokevirtual 174, 3) := by decide +kernel
theorem dX12_answers_130 : decode cX12_answers 130 = .ok (.istore 5, 2) := by decide +kernel
theorem dX12_answers_132 : decode cX12_answers 132 = .ok (.iinc 3 1, 3) := by decide +kernel
theorem dX12_answers_135 : decode cX12_answers 135 = .ok (.goto (-123), 3) := by decide +kernel
theorem dX12_answers_138 : decode cX12_answers 138 = .ok (.aload_n 0, 1) := by decide +kernel
theorem dX12_answers_139 : decode cX12_answers 139 = .ok (.getfield 7, 3) := by decide +kernel
theorem dX12_answers_142 : decode cX12_answers 142 = .ok (.bipush 6, 2) := by decide +kernel
theorem dX12_answers_144 : decode cX12_answers 144 = .ok (.iload_n 1, 1) := by decide +kernel
theorem dX12_answers_145 : decode cX12_answers 145 = .ok (.iastore, 1) := by decide +kernel
theorem dX12_answers_146 : decode cX12_answers 146 = .ok (.return_, 1) := by decide +kernel
theorem dX12_goesBy_0 : decode cX12_goesBy 0 = .ok (.aload_n 0, 1) := by decide +kernel
theorem dX12_goesBy_1 : decode cX12_goesBy 1 = .ok (.getfield 7, 3) := by decide +kernel
theorem dX12_goesBy_4 : decode cX12_goesBy 4 = .ok (.iconst 5, 1) := by decide +kernel
theorem dX12_goesBy_5 : decode cX12_goesBy 5 = .ok (.iaload, 1) := by decide +kernel
theorem dX12_goesBy_6 : decode cX12_goesBy 6 = .ok (.istore_n 2, 1) := by decide +kernel
theorem dX12_goesBy_7 : decode cX12_goesBy 7 = .ok (.iconst 0, 1) := by decide +kernel
theorem dX12_goesBy_8 : decode cX12_goesBy 8 = .ok (.istore_n 3, 1) := by decide +kernel
theorem dX12_goesBy_9 : decode cX12_goesBy 9 = .ok (.iload_n 3, 1) := by decide +kernel
theorem dX12_goesBy_10 : decode cX12_goesBy 10 = .ok (.iload_n 2, 1) := by decide +kernel
theorem dX12_goesBy_11 : decode cX12_goesBy 11 = .ok (.if_icmp .ge 30, 3) := by decide +kernel
theorem dX12_goesBy_14 : decode cX12_goesBy 14 = .ok (.aload_n 0, 1) := by decide +kernel
theorem dX12_goesBy_15 : decode cX12_goesBy 15 = .ok (.iload_n 3, 1) := by decide +kernel
theorem dX12_goesBy_16 : decode cX12_goesBy 16 = .ok (.iconst 5, 1) := by decide +kernel
theorem dX12_goesBy_17 : decode cX12_goesBy 17 = .ok (.invokevirtual 182, 3) := by decide +kernel
theorem dX12_goesBy_20 : decode cX12_goesBy 20 = .ok (.aload_n 0, 1) := by decide +kernel
theorem dX12_goesBy_21 : decode cX12_goesBy 21 = .ok (.getfield 7, 3) := by decide +kernel
theorem dX12_goesBy_24 : decode cX12_goesBy 24 = .ok (.iconst 3, 1) := by decide +kernel
theorem dX12_goesBy_25 : decode cX12_goesBy 25 = .ok (.iaload, 1) := by decide +kernel
theorem dX12_goesBy_26 : decode cX12_goesBy 26 = .ok (.if_icmp .ne 9, 3) := by decide +kernel
theorem dX12_goesBy_29 : decode cX12_goesBy 29 = .ok (.aload_n 0, 1) := by decide +kernel
theorem dX12_goesBy_30 : decode cX12_goesBy 30 = .ok (.iload_n 3, 1) := by decide +kernel
theorem dX12_goesBy_31 : decode cX12_goesBy 31 = .ok (.iload_n 1, 1) := by decide +kernel
theorem dX12_goesBy_32 : decode cX12_goesBy 32 = .ok (.invokevirtual 195, 3) := by decide +kernel
theorem dX12_goesBy_35 : decode cX12_goesBy 35 = .ok (.iinc 3 1, 3) := by decide +kernel
theorem dX12_goesBy_38 : decode cX12_goesBy 38 = .ok (.goto (-29), 3) := by decide +kernel
theorem dX12_goesBy_41 : decode cX12_goesBy 41 = .ok (.aload_n 0, 1) := by decide +kernel
theorem dX12_goesBy_42 : decode cX12_goesBy 42 = .ok (.invokevirtual 199, 3) := by decide +kernel
theorem dX12_goesBy_45 : decode cX12_goesBy 45 = .ok (.aload_n 0, 1) := by decide +kernel
theorem dX12_goesBy_46 : decode cX12_goesBy 46 = .ok (.getfield 7, 3) := by decide +kernel
theorem dX12_goesBy_49 : decode cX12_goesBy 49 = .ok (.iconst 3, 1) := by decide +kernel
theorem dX12_goesBy_50 : decode cX12_goesBy 50 = .ok (.dup2, 1) := by decide +kernel
theorem dX12_goesBy_51 : decode cX12_goesBy 51 = .ok (.iaload, 1) := by decide +kernel
theorem dX12_goesBy_52 : decode cX12_goesBy 52 = .ok (.iconst 1, 1) := by decide +kernel
theorem dX12_goesBy_53 : decode cX12_goesBy 53 = .ok (.iadd, 1) := by decide +kernel
theorem dX12_goesBy_54 : decode cX12_goesBy 54 = .ok (.iastore, 1) := by decide +kernel
theorem dX12_goesBy_55 : decode cX12_goesBy 55 = .ok (.return_, 1) := by decide +kernel
theorem dX12_goesOn_0 : decode cX12_goesOn 0 = .ok (.iconst 0, 1) := by decide +kernel
theorem dX12_goesOn_1 : decode cX12_goesOn 1 = .ok (.istore_n 2, 1) := by decide +kernel
theorem dX12_goesOn_2 : decode cX12_goesOn 2 = .ok (.iload_n 2, 1) := by decide +kernel
theorem dX12_goesOn_3 : decode cX12_goesOn 3 = .ok (.iload_n 1, 1) := by decide +kernel
theorem dX12_goesOn_4 : decode cX12_goesOn 4 = .ok (.if_icmp .ge 14, 3) := by decide +kernel
theorem dX12_goesOn_7 : decode cX12_goesOn 7 = .ok (.aload_n 0, 1) := by decide +kernel
theorem dX12_goesOn_8 : decode cX12_goesOn 8 = .ok (.iconst 0, 1) := by decide +kernel
theorem dX12_goesOn_9 : decode cX12_goesOn 9 = .ok (.invokevirtual 202, 3) := by decide +kernel
theorem dX12_goesOn_12 : decode cX12_goesOn 12 = .ok (.iinc 2 1, 3) := by decide +kernel
theorem dX12_goesOn_15 : decode cX12_goesOn 15 = .ok (.goto (-13), 3) := by decide +kernel
theorem dX12_goesOn_18 : decode cX12_goesOn 18 = .ok (.return_, 1) := by decide +kernel
theorem dX12_goes_0 : decode cX12_goes 0 = .ok (.iload_n 1, 1) := by decide +kernel
theorem dX12_goes_1 : decode cX12_goes 1 = .ok (.i2l, 1) := by decide +kernel
theorem dX12_goes_2 : decode cX12_goes 2 = .ok (.lconst 1, 1) := by decide +kernel
theorem dX12_goes_3 : decode cX12_goes 3 = .ok (.ldc2_w 206, 3) := by decide +kernel
theorem dX12_goes_6 : decode cX12_goes 6 = .ok (.invokestatic 56, 3) := by decide +kernel
theorem dX12_goes_9 : decode cX12_goes 9 = .ok (.ifCond .ne 9, 3) := by decide +kernel
theorem dX12_goes_12 : decode cX12_goes 12 = .ok (.aload_n 0, 1) := by decide +kernel
theorem dX12_goes_13 : decode cX12_goes 13 = .ok (.iconst 1, 1) := by decide +kernel
theorem dX12_goes_14 : decode cX12_goes 14 = .ok (.invokevirtual 121, 3) := by decide +kernel
theorem dX12_goes_17 : decode cX12_goes 17 = .ok (.ireturn, 1) := by decide +kernel
theorem dX12_goes_18 : decode cX12_goes 18 = .ok (.aload_n 0, 1) := by decide +kernel
theorem dX12_goes_19 : decode cX12_goes 19 = .ok (.getfield 7, 3) := by decide +kernel
theorem dX12_goes_22 : decode cX12_goes 22 = .ok (.iconst 3, 1) := by decide +kernel
theorem dX12_goes_23 : decode cX12_goes 23 = .ok (.iaload, 1) := by decide +kernel
theorem dX12_goes_24 : decode cX12_goes 24 = .ok (.iload_n 1, 1) := by decide +kernel
theorem dX12_goes_25 : decode cX12_goes 25 = .ok (.iadd, 1) := by decide +kernel
theorem dX12_goes_26 : decode cX12_goes 26 = .ok (.sipush 9999, 3) := by decide +kernel
theorem dX12_goes_29 : decode cX12_goes 29 = .ok (.if_icmp .le 9, 3) := by decide +kernel
theorem dX12_goes_32 : decode cX12_goes 32 = .ok (.aload_n 0, 1) := by decide +kernel
theorem dX12_goes_33 : decode cX12_goes 33 = .ok (.iconst 3, 1) := by decide +kernel
theorem dX12_goes_34 : decode cX12_goes 34 = .ok (.invokevirtual 121, 3) := by decide +kernel
theorem dX12_goes_37 : decode cX12_goes 37 = .ok (.ireturn, 1) := by decide +kernel
theorem dX12_goes_38 : decode cX12_goes 38 = .ok (.iconst 0, 1) := by decide +kernel
theorem dX12_goes_39 : decode cX12_goes 39 = .ok (.istore_n 3, 1) := by decide +kernel
theorem dX12_goes_40 : decode cX12_goes 40 = .ok (.iload_n 3, 1) := by decide +kernel
theorem dX12_goes_41 : decode cX12_goes 41 = .ok (.iload_n 1, 1) := by decide +kernel
theorem dX12_goes_42 : decode cX12_goes 42 = .ok (.if_icmp .ge 14, 3) := by decide +kernel
theorem dX12_goes_45 : decode cX12_goes 45 = .ok (.aload_n 0, 1) := by decide +kernel
theorem dX12_goes_46 : decode cX12_goes 46 = .ok (.iload_n 2, 1) := by decide +kernel
theorem dX12_goes_47 : decode cX12_goes 47 = .ok (.invokevirtual 202, 3) := by decide +kernel
theorem dX12_goes_50 : decode cX12_goes 50 = .ok (.iinc 3 1, 3) := by decide +kernel
theorem dX12_goes_53 : decode cX12_goes 53 = .ok (.goto (-13), 3) := by decide +kernel
theorem dX12_goes_56 : decode cX12_goes 56 = .ok (.aload_n 0, 1) := by decide +kernel
theorem dX12_goes_57 : decode cX12_goes 57 = .ok (.getfield 7, 3) := by decide +kernel
theorem dX12_goes_60 : decode cX12_goes 60 = .ok (.iconst 5, 1) := by decide +kernel
theorem dX12_goes_61 : decode cX12_goes 61 = .ok (.iaload, 1) := by decide +kernel
theorem dX12_goes_62 : decode cX12_goes 62 = .ok (.ireturn, 1) := by decide +kernel
theorem dX12_seconds_0 : decode cX12_seconds 0 = .ok (.aload_n 0, 1) := by decide +kernel
theorem dX12_seconds_1 : decode cX12_seconds 1 = .ok (.iload_n 1, 1) := by decide +kernel
theorem dX12_seconds_2 : decode cX12_seconds 2 = .ok (.iconst 0, 1) := by decide +kernel
theorem dX12_seconds_3 : decode cX12_seconds 3 = .ok (.invokevirtual 208, 3) := by decide +kernel
theorem dX12_seconds_6 : decode cX12_seconds 6 = .ok (.ireturn, 1) := by decide +kernel
theorem dX12_loose_0 : decode cX12_loose 0 = .ok (.aload_n 0, 1) := by decide +kernel
theorem dX12_loose_1 : decode cX12_loose 1 = .ok (.iload_n 1, 1) := by decide +kernel
theorem dX12_loose_2 : decode cX12_loose 2 = .ok (.iconst 1, 1) := by decide +kernel
theorem dX12_loose_3 : decode cX12_loose 3 = .ok (.invokevirtual 208, 3) := by decide +kernel
theorem dX12_loose_6 : decode cX12_loose 6 = .ok (.ireturn, 1) := by decide +kernel
theorem dX12_then_0 : decode cX12_then 0 = .ok (.iload_n 1, 1) := by decide +kernel
theorem dX12_then_1 : decode cX12_then 1 = .ok (.i2l, 1) := by decide +kernel
theorem dX12_then_2 : decode cX12_then 2 = .ok (.lconst 0, 1) := by decide +kernel
theorem dX12_then_3 : decode cX12_then 3 = .ok (.ldc2_w 206, 3) := by decide +kernel
theorem dX12_then_6 : decode cX12_then 6 = .ok (.invokestatic 56, 3) := by decide +kernel
theorem dX12_then_9 : decode cX12_then 9 = .ok (.ifCond .eq 15, 3) := by decide +kernel
theorem dX12_then_12 : decode cX12_then 12 = .ok (.iload_n 2, 1) := by decide +kernel
theorem dX12_then_13 : decode cX12_then 13 = .ok (.i2l, 1) := by decide +kernel
theorem dX12_then_14 : decode cX12_then 14 = .ok (.lconst 0, 1) := by decide +kernel
theorem dX12_then_15 : decode cX12_then 15 = .ok (.ldc2_w 137, 3) := by decide +kernel
theorem dX12_then_18 : decode cX12_then 18 = .ok (.invokestatic 56, 3) := by decide +kernel
theorem dX12_then_21 : decode cX12_then 21 = .ok (.ifCond .ne 9, 3) := by decide +kernel
theorem dX12_then_24 : decode cX12_then 24 = .ok (.aload_n 0, 1) := by decide +kernel
theorem dX12_then_25 : decode cX12_then 25 = .ok (.iconst 1, 1) := by decide +kernel
theorem dX12_then_26 : decode cX12_then 26 = .ok (.invokevirtual 121, 3) := by decide +kernel
theorem dX12_then_29 : decode cX12_then 29 = .ok (.ireturn, 1) := by decide +kernel
theorem dX12_then_30 : decode cX12_then 30 = .ok (.aload_n 0, 1) := by decide +kernel
theorem dX12_then_31 : decode cX12_then 31 = .ok (.getfield 7, 3) := by decide +kernel
theorem dX12_then_34 : decode cX12_then 34 = .ok (.aload_n 0, 1) := by decide +kernel
theorem dX12_then_35 : decode cX12_then 35 = .ok (.getfield 13, 3) := by decide +kernel
theorem dX12_then_38 : decode cX12_then 38 = .ok (.invokestatic 212, 3) := by decide +kernel
theorem dX12_then_41 : decode cX12_then 41 = .ok (.aload_n 0, 1) := by decide +kernel
theorem dX12_then_42 : decode cX12_then 42 = .ok (.iload_n 1, 1) := by decide +kernel
theorem dX12_then_43 : decode cX12_then 43 = .ok (.invokevirtual 216, 3) := by decide +kernel
theorem dX12_then_46 : decode cX12_then 46 = .ok (.iload_n 2, 1) := by decide +kernel
theorem dX12_then_47 : decode cX12_then 47 = .ok (.ifCond .ne 12, 3) := by decide +kernel
theorem dX12_then_50 : decode cX12_then 50 = .ok (.aload_n 0, 1) := by decide +kernel
theorem dX12_then_51 : decode cX12_then 51 = .ok (.getfield 7, 3) := by decide +kernel
theorem dX12_then_54 : decode cX12_then 54 = .ok (.iconst 5, 1) := by decide +kernel
theorem dX12_then_55 : decode cX12_then 55 = .ok (.iaload, 1) := by decide +kernel
theorem dX12_then_56 : decode cX12_then 56 = .ok (.goto 22, 3) := by decide +kernel
theorem dX12_then_59 : decode cX12_then 59 = .ok (.iload_n 2, 1) := by decide +kernel
theorem dX12_then_60 : decode cX12_then 60 = .ok (.iconst 1, 1) := by decide +kernel
theorem dX12_then_61 : decode cX12_then 61 = .ok (.if_icmp .ne 13, 3) := by decide +kernel
theorem dX12_then_64 : decode cX12_then 64 = .ok (.aload_n 0, 1) := by decide +kernel
theorem dX12_then_65 : decode cX12_then 65 = .ok (.getfield 7, 3) := by decide +kernel
theorem dX12_then_68 : decode cX12_then 68 = .ok (.bipush 6, 2) := by decide +kernel
theorem dX12_then_70 : decode cX12_then 70 = .ok (.iaload, 1) := by decide +kernel
theorem dX12_then_71 : decode cX12_then 71 = .ok (.goto 7, 3) := by decide +kernel
theorem dX12_then_74 : decode cX12_then 74 = .ok (.aload_n 0, 1) := by decide +kernel
theorem dX12_then_75 : decode cX12_then 75 = .ok (.invokevirtual 220, 3) := by decide +kernel
theorem dX12_then_78 : decode cX12_then 78 = .ok (.istore_n 3, 1) := by decide +kernel
theorem dX12_then_79 : decode cX12_then 79 = .ok (.aload_n 0, 1) := by decide +kernel
theorem dX12_then_80 : decode cX12_then 80 = .ok (.getfield 13, 3) := by decide +kernel
theorem dX12_then_83 : decode cX12_then 83 = .ok (.aload_n 0, 1) := by decide +kernel
theorem dX12_then_84 : decode cX12_then 84 = .ok (.getfield 7, 3) := by decide +kernel
theorem dX12_then_87 : decode cX12_then 87 = .ok (.invokestatic 212, 3) := by decide +kernel
theorem dX12_then_90 : decode cX12_then 90 = .ok (.iload_n 3, 1) := by decide +kernel
theorem dX12_then_91 : decode cX12_then 91 = .ok (.ireturn, 1) := by decide +kernel
theorem dX12_thenShout_0 : decode cX12_thenShout 0 = .ok (.iload_n 1, 1) := by decide +kernel
theorem dX12_thenShout_1 : decode cX12_thenShout 1 = .ok (.i2l, 1) := by decide +kernel
theorem dX12_thenShout_2 : decode cX12_thenShout 2 = .ok (.lconst 0, 1) := by decide +kernel
theorem dX12_thenShout_3 : decode cX12_thenShout 3 = .ok (.ldc2_w 206, 3) := by decide +kernel
theorem dX12_thenShout_6 : decode cX12_thenShout 6 = .ok (.invokestatic 56, 3) := by decide +kernel
theorem dX12_thenShout_9 : decode cX12_thenShout 9 = .ok (.ifCond .eq 27, 3) := by decide +kernel
theorem dX12_thenShout_12 : decode cX12_thenShout 12 = .ok (.iload_n 2, 1) := by decide +kernel
theorem dX12_thenShout_13 : decode cX12_thenShout 13 = .ok (.i2l, 1) := by decide +kernel
theorem dX12_thenShout_14 : decode cX12_thenShout 14 = .ok (.lconst 0, 1) := by decide +kernel
theorem dX12_thenShout_15 : decode cX12_thenShout 15 = .ok (.ldc2_w 60, 3) := by decide +kernel
theorem dX12_thenShout_18 : decode cX12_thenShout 18 = .ok (.invokestatic 56, 3) := by decide +kernel
theorem dX12_thenShout_21 : decode cX12_thenShout 21 = .ok (.ifCond .eq 15, 3) := by decide +kernel
theorem dX12_thenShout_24 : decode cX12_thenShout 24 = .ok (.iload_n 3, 1) := by decide +kernel
theorem dX12_thenShout_25 : decode cX12_thenShout 25 = .ok (.i2l, 1) := by decide +kernel
theorem dX12_thenShout_26 : decode cX12_thenShout 26 = .ok (.lconst 0, 1) := by decide +kernel
theorem dX12_thenShout_27 : decode cX12_thenShout 27 = .ok (.ldc2_w 180, 3) := by decide +kernel
theorem dX12_thenShout_30 : decode cX12_thenShout 30 = .ok (.invokestatic 56, 3) := by decide +kernel
theorem dX12_thenShout_33 : decode cX12_thenShout 33 = .ok (.ifCond .ne 9, 3) := by decide +kernel
theorem dX12_thenShout_36 : decode cX12_thenShout 36 = .ok (.aload_n 0, 1) := by decide +kernel
theorem dX12_thenShout_37 : decode cX12_thenShout 37 = .ok (.iconst 1, 1) := by decide +kernel
theorem dX12_thenShout_38 : decode cX12_thenShout 38 = .ok (.invokevirtual 121, 3) := by decide +kernel
theorem dX12_thenShout_41 : decode cX12_thenShout 41 = .ok (.ireturn, 1) := by decide +kernel
theorem dX12_thenShout_42 : decode cX12_thenShout 42 = .ok (.aload_n 0, 1) := by decide +kernel
theorem dX12_thenShout_43 : decode cX12_thenShout 43 = .ok (.getfield 7, 3) := by decide +kernel
theorem dX12_thenShout_46 : decode cX12_thenShout 46 = .ok (.aload_n 0, 1) := by decide +kernel
theorem dX12_thenShout_47 : decode cX12_thenShout 47 = .ok (.getfield 13, 3) := by decide +kernel
theorem dX12_thenShout_50 : decode cX12_thenShout 50 = .ok (.invokestatic 212, 3) := by decide +kernel
theorem dX12_thenShout_53 : decode cX12_thenShout 53 = .ok (.aload_n 0, 1) := by decide +kernel
theorem dX12_thenShout_54 : decode cX12_thenShout 54 = .ok (.iload_n 1, 1) := by decide +kernel
theorem dX12_thenShout_55 : decode cX12_thenShout 55 = .ok (.invokevirtual 216, 3) := by decide +kernel
theorem dX12_thenShout_58 : decode cX12_thenShout 58 = .ok (.aload_n 0, 1) := by decide +kernel
theorem dX12_thenShout_59 : decode cX12_thenShout 59 = .ok (.iload_n 2, 1) := by decide +kernel
theorem dX12_thenShout_60 : decode cX12_thenShout 60 = .ok (.invokevirtual 177, 3) := by decide +kernel
theorem dX12_thenShout_63 : decode cX12_thenShout 63 = .ok (.istore 4, 2) := by decide +kernel
theorem dX12_thenShout_65 : decode cX12_thenShout 65 = .ok (.iload 4, 2) := by decide +kernel
theorem dX12_thenShout_67 : decode cX12_thenShout 67 = .ok (.ifCond .eq 12, 3) := by decide +kernel
theorem dX12_thenShout_70 : decode cX12_thenShout 70 = .ok (.aload_n 0, 1) := by decide +kernel
theorem dX12_thenShout_71 : decode cX12_thenShout 71 = .ok (.iload_n 2, 1) := by decide +kernel
theorem dX12_thenShout_72 : decode cX12_thenShout 72 = .ok (.iload_n 3, 1) := by decide +kernel
theorem dX12_thenShout_73 : decode cX12_thenShout 73 = .ok (.invokevirtual 182, 3) := by decide +kernel
theorem dX12_thenShout_76 : decode cX12_thenShout 76 = .ok (.goto 4, 3) := by decide +kernel
theorem dX12_thenShout_79 : decode cX12_thenShout 79 = .ok (.iconst 0, 1) := by decide +kernel
theorem dX12_thenShout_80 : decode cX12_thenShout 80 = .ok (.istore 5, 2) := by decide +kernel
theorem dX12_thenShout_82 : decode cX12_thenShout 82 = .ok (.aload_n 0, 1) := by decide +kernel
theorem dX12_thenShout_83 : decode cX12_thenShout 83 = .ok (.getfield 13, 3) := by decide +kernel
theorem dX12_thenShout_86 : decode cX12_thenShout 86 = .ok (.aload_n 0, 1) := by decide +kernel
theorem dX12_thenShout_87 : decode cX12_thenShout 87 = .ok (.getfield 7, 3) := by decide +kernel
theorem dX12_thenShout_90 : decode cX12_thenShout 90 = .ok (.invokestatic 212, 3) := by decide +kernel
theorem dX12_thenShout_93 : decode cX12_thenShout 93 = .ok (.iload 4, 2) := by decide +kernel
theorem dX12_thenShout_95 : decode cX12_thenShout 95 = .ok (.ifCond .eq 8, 3) := by decide +kernel
theorem dX12_thenShout_98 : decode cX12_thenShout 98 = .ok (.iload 5, 2) := by decide +kernel
theorem dX12_thenShout_100 : decode cX12_thenShout 100 = .ok (.goto 8, 3) := by decide +kernel
theorem dX12_thenShout_103 : decode cX12_thenShout 103 = .ok (.aload_n 0, 1) := by decide +kernel
theorem dX12_thenShout_104 : decode cX12_thenShout 104 = .ok (.iconst 2, 1) := by decide +kernel
theorem dX12_thenShout_105 : decode cX12_thenShout 105 = .ok (.invokevirtual 121, 3) := by decide +kernel
theorem dX12_thenShout_108 : decode cX12_thenShout 108 = .ok (.ireturn, 1) := by decide +kernel
theorem dX12_isSheet_0 : decode cX12_isSheet 0 = .ok (.iload_n 0, 1) := by decide +kernel
theorem dX12_isSheet_1 : decode cX12_isSheet 1 = .ok (.i2l, 1) := by decide +kernel
theorem dX12_isSheet_2 : decode cX12_isSheet 2 = .ok (.lconst 0, 1) := by decide +kernel
theorem dX12_isSheet_3 : decode cX12_isSheet 3 = .ok (.ldc2_w 152, 3) := by decide +kernel
theorem dX12_isSheet_6 : decode cX12_isSheet 6 = .ok (.invokestatic 56, 3) := by decide +kernel
theorem dX12_isSheet_9 : decode cX12_isSheet 9 = .ok (.ireturn, 1) := by decide +kernel
theorem dX12_sheet_0 : decode cX12_sheet 0 = .ok (.iload_n 1, 1) := by decide +kernel
theorem dX12_sheet_1 : decode cX12_sheet 1 = .ok (.invokestatic 223, 3) := by decide +kernel
theorem dX12_sheet_4 : decode cX12_sheet 4 = .ok (.ifCond .eq 25, 3) := by decide +kernel
theorem dX12_sheet_7 : decode cX12_sheet 7 = .ok (.iload_n 2, 1) := by decide +kernel
theorem dX12_sheet_8 : decode cX12_sheet 8 = .ok (.ifCond .eq 27, 3) := by decide +kernel
theorem dX12_sheet_11 : decode cX12_sheet 11 = .ok (.iload_n 2, 1) := by decide +kernel
theorem dX12_sheet_12 : decode cX12_sheet 12 = .ok (.bipush 8, 2) := by decide +kernel
theorem dX12_sheet_14 : decode cX12_sheet 14 = .ok (.if_icmp .eq 21, 3) := by decide +kernel
theorem dX12_sheet_17 : decode cX12_sheet 17 = .ok (.iload_n 2, 1) := by decide +kernel
theorem dX12_sheet_18 : decode cX12_sheet 18 = .ok (.bipush 16, 2) := by decide +kernel
theorem dX12_sheet_20 : decode cX12_sheet 20 = .ok (.if_icmp .eq 15, 3) := by decide +kernel
theorem dX12_sheet_23 : decode cX12_sheet 23 = .ok (.iload_n 2, 1) := by decide +kernel
theorem dX12_sheet_24 : decode cX12_sheet 24 = .ok (.bipush 32, 2) := by decide +kernel
theorem dX12_sheet_26 : decode cX12_sheet 26 = .ok (.if_icmp .eq 9, 3) := by decide +kernel
theorem dX12_sheet_29 : decode cX12_sheet 29 = .ok (.aload_n 0, 1) := by decide +kernel
theorem dX12_sheet_30 : decode cX12_sheet 30 = .ok (.iconst 1, 1) := by decide +kernel
theorem dX12_sheet_31 : decode cX12_sheet 31 = .ok (.invokevirtual 121, 3) := by decide +kernel
theorem dX12_sheet_34 : decode cX12_sheet 34 = .ok (.ireturn, 1) := by decide +kernel
theorem dX12_sheet_35 : decode cX12_sheet 35 = .ok (.iload_n 2, 1) := by decide +kernel
theorem dX12_sheet_36 : decode cX12_sheet 36 = .ok (.ifCond .eq 13, 3) := by decide +kernel
theorem dX12_sheet_39 : decode cX12_sheet 39 = .ok (.iload_n 3, 1) := by decide +kernel
theorem dX12_sheet_40 : decode cX12_sheet 40 = .ok (.ifCond .ge 9, 3) := by decide +kernel
theorem dX12_sheet_43 : decode cX12_sheet 43 = .ok (.aload_n 0, 1) := by decide +kernel
theorem dX12_sheet_44 : decode cX12_sheet 44 = .ok (.iconst 3, 1) := by decide +kernel
theorem dX12_sheet_45 : decode cX12_sheet 45 = .ok (.invokevirtual 121, 3) := by decide +kernel
theorem dX12_sheet_48 : decode cX12_sheet 48 = .ok (.ireturn, 1) := by decide +kernel
theorem dX12_sheet_49 : decode cX12_sheet 49 = .ok (.iload_n 2, 1) := by decide +kernel
theorem dX12_sheet_50 : decode cX12_sheet 50 = .ok (.ifCond .eq 15, 3) := by decide +kernel
theorem dX12_sheet_53 : decode cX12_sheet 53 = .ok (.iload_n 3, 1) := by decide +kernel
theorem dX12_sheet_54 : decode cX12_sheet 54 = .ok (.bipush 40, 2) := by decide +kernel
theorem dX12_sheet_56 : decode cX12_sheet 56 = .ok (.if_icmp .le 9, 3) := by decide +kernel
theorem dX12_sheet_59 : decode cX12_sheet 59 = .ok (.aload_n 0, 1) := by decide +kernel
theorem dX12_sheet_60 : decode cX12_sheet 60 = .ok (.iconst 1, 1) := by decide +kernel
theorem dX12_sheet_61 : decode cX12_sheet 61 = .ok (.invokevirtual 121, 3) := by decide +kernel
theorem dX12_sheet_64 : decode cX12_sheet 64 = .ok (.ireturn, 1) := by decide +kernel
theorem dX12_sheet_65 : decode cX12_sheet 65 = .ok (.aload_n 0, 1) := by decide +kernel
theorem dX12_sheet_66 : decode cX12_sheet 66 = .ok (.getfield 25, 3) := by decide +kernel
theorem dX12_sheet_69 : decode cX12_sheet 69 = .ok (.iload_n 1, 1) := by decide +kernel
theorem dX12_sheet_70 : decode cX12_sheet 70 = .ok (.iload_n 2, 1) := by decide +kernel
theorem dX12_sheet_71 : decode cX12_sheet 71 = .ok (.iastore, 1) := by decide +kernel
theorem dX12_sheet_72 : decode cX12_sheet 72 = .ok (.aload_n 0, 1) := by decide +kernel
theorem dX12_sheet_73 : decode cX12_sheet 73 = .ok (.getfield 28, 3) := by decide +kernel
theorem dX12_sheet_76 : decode cX12_sheet 76 = .ok (.iload_n 1, 1) := by decide +kernel
theorem dX12_sheet_77 : decode cX12_sheet 77 = .ok (.iload_n 2, 1) := by decide +kernel
theorem dX12_sheet_78 : decode cX12_sheet 78 = .ok (.ifCond .ne 7, 3) := by decide +kernel
theorem dX12_sheet_81 : decode cX12_sheet 81 = .ok (.iconst 0, 1) := by decide +kernel
theorem dX12_sheet_82 : decode cX12_sheet 82 = .ok (.goto 4, 3) := by decide +kernel
theorem dX12_sheet_85 : decode cX12_sheet 85 = .ok (.iload_n 3, 1) := by decide +kernel
theorem dX12_sheet_86 : decode cX12_sheet 86 = .ok (.iastore, 1) := by decide +kernel
theorem dX12_sheet_87 : decode cX12_sheet 87 = .ok (.iconst 0, 1) := by decide +kernel
theorem dX12_sheet_88 : decode cX12_sheet 88 = .ok (.istore 4, 2) := by decide +kernel
theorem dX12_sheet_90 : decode cX12_sheet 90 = .ok (.iload 4, 2) := by decide +kernel
theorem dX12_sheet_92 : decode cX12_sheet 92 = .ok (.bipush 40, 2) := by decide +kernel
theorem dX12_sheet_94 : decode cX12_sheet 94 = .ok (.if_icmp .ge 22, 3) := by decide +kernel
theorem dX12_sheet_97 : decode cX12_sheet 97 = .ok (.aload_n 0, 1) := by decide +kernel
theorem dX12_sheet_98 : decode cX12_sheet 98 = .ok (.getfield 31, 3) := by decide +kernel
theorem dX12_sheet_101 : decode cX12_sheet 101 = .ok (.bipush 40, 2) := by decide +kernel
theorem dX12_sheet_103 : decode cX12_sheet 103 = .ok (.iload_n 1, 1) := by decide +kernel
theorem dX12_sheet_104 : decode cX12_sheet 104 = .ok (.imul, 1) := by decide +kernel
theorem dX12_sheet_105 : decode cX12_sheet 105 = .ok (.iload 4, 2) := by decide +kernel
theorem dX12_sheet_107 : decode cX12_sheet 107 = .ok (.iadd, 1) := by decide +kernel
theorem dX12_sheet_108 : decode cX12_sheet 108 = .ok (.iconst 0, 1) := by decide +kernel
theorem dX12_sheet_109 : decode cX12_sheet 109 = .ok (.iastore, 1) := by decide +kernel
theorem dX12_sheet_110 : decode cX12_sheet 110 = .ok (.iinc 4 1, 3) := by decide +kernel
theorem dX12_sheet_113 : decode cX12_sheet 113 = .ok (.goto (-23), 3) := by decide +kernel
theorem dX12_sheet_116 : decode cX12_sheet 116 = .ok (.iconst 1, 1) := by decide +kernel
theorem dX12_sheet_117 : decode cX12_sheet 117 = .ok (.ireturn, 1) := by decide +kernel
theorem dX12_put_0 : decode cX12_put 0 = .ok (.iload_n 1, 1) := by decide +kernel
theorem dX12_put_1 : decode cX12_put 1 = .ok (.invokestatic 223, 3) := by decide +kernel
theorem dX12_put_4 : decode cX12_put 4 = .ok (.ifCond .ne 9, 3) := by decide +kernel
theorem dX12_put_7 : decode cX12_put 7 = .ok (.aload_n 0, 1) := by decide +kernel
theorem dX12_put_8 : decode cX12_put 8 = .ok (.iconst 1, 1) := by decide +kernel
theorem dX12_put_9 : decode cX12_put 9 = .ok (.invokevirtual 121, 3) := by decide +kernel
theorem dX12_put_12 : decode cX12_put 12 = .ok (.ireturn, 1) := by decide +kernel
theorem dX12_put_13 : decode cX12_put 13 = .ok (.aload_n 0, 1) := by decide +kernel
theorem dX12_put_14 : decode cX12_put 14 = .ok (.getfield 25, 3) := by decide +kernel
theorem dX12_put_17 : decode cX12_put 17 = .ok (.iload_n 1, 1) := by decide +kernel
theorem dX12_put_18 : decode cX12_put 18 = .ok (.iaload, 1) := by decide +kernel
theorem dX12_put_19 : decode cX12_put 19 = .ok (.ifCond .ne 9, 3) := by decide +kernel
theorem dX12_put_22 : decode cX12_put 22 = .ok (.aload_n 0, 1) := by decide +kernel
theorem dX12_put_23 : decode cX12_put 23 = .ok (.iconst 2, 1) := by decide +kernel
theorem dX12_put_24 : decode cX12_put 24 = .ok (.invokevirtual 121, 3) := by decide +kernel
theorem dX12_put_27 : decode cX12_put 27 = .ok (.ireturn, 1) := by decide +kernel
theorem dX12_put_28 : decode cX12_put 28 = .ok (.iload_n 2, 1) := by decide +kernel
theorem dX12_put_29 : decode cX12_put 29 = .ok (.i2l, 1) := by decide +kernel
theorem dX12_put_30 : decode cX12_put 30 = .ok (.lconst 0, 1) := by decide +kernel
theorem dX12_put_31 : decode cX12_put 31 = .ok (.aload_n 0, 1) := by decide +kernel
theorem dX12_put_32 : decode cX12_put 32 = .ok (.getfield 28, 3) := by decide +kernel
theorem dX12_put_35 : decode cX12_put 35 = .ok (.iload_n 1, 1) := by decide +kernel
theorem dX12_put_36 : decode cX12_put 36 = .ok (.iaload, 1) := by decide +kernel
theorem dX12_put_37 : decode cX12_put 37 = .ok (.iconst 1, 1) := by decide +kernel
theorem dX12_put_38 : decode cX12_put 38 = .ok (.isub, 1) := by decide +kernel
theorem dX12_put_39 : decode cX12_put 39 = .ok (.i2l, 1) := by decide +kernel
theorem dX12_put_40 : decode cX12_put 40 = .ok (.invokestatic 56, 3) := by decide +kernel
theorem dX12_put_43 : decode cX12_put 43 = .ok (.ifCond .ne 9, 3) := by decide +kernel
theorem dX12_put_46 : decode cX12_put 46 = .ok (.aload_n 0, 1) := by decide +kernel
theorem dX12_put_47 : decode cX12_put 47 = .ok (.iconst 1, 1) := by decide +kernel
theorem dX12_put_48 : decode cX12_put 48 = .ok (.invokevirtual 121, 3) := by decide +kernel
theorem dX12_put_51 : decode cX12_put 51 = .ok (.ireturn, 1) := by decide +kernel
theorem dX12_put_52 : decode cX12_put 52 = .ok (.aload_n 0, 1) := by decide +kernel
theorem dX12_put_53 : decode cX12_put 53 = .ok (.getfield 31, 3) := by decide +kernel
theorem dX12_put_56 : decode cX12_put 56 = .ok (.bipush 40, 2) := by decide +kernel
theorem dX12_put_58 : decode cX12_put 58 = .ok (.iload_n 1, 1) := by decide +kernel
theorem dX12_put_59 : decode cX12_put 59 = .ok (.imul, 1) := by decide +kernel
theorem dX12_put_60 : decode cX12_put 60 = .ok (.iload_n 2, 1) := by decide +kernel
theorem dX12_put_61 : decode cX12_put 61 = .ok (.iadd, 1) := by decide +kernel
theorem dX12_put_62 : decode cX12_put 62 = .ok (.aload_n 0, 1) := by decide +kernel
theorem dX12_put_63 : decode cX12_put 63 = .ok (.getfield 25, 3) := by decide +kernel
theorem dX12_put_66 : decode cX12_put 66 = .ok (.iload_n 1, 1) := by decide +kernel
theorem dX12_put_67 : decode cX12_put 67 = .ok (.iaload, 1) := by decide +kernel
theorem dX12_put_68 : decode cX12_put 68 = .ok (.bipush 8, 2) := by decide +kernel
theorem dX12_put_70 : decode cX12_put 70 = .ok (.if_icmp .ne 8, 3) := by decide +kernel
theorem dX12_put_73 : decode cX12_put 73 = .ok (.iload_n 3, 1) := by decide +kernel
theorem dX12_put_74 : decode cX12_put 74 = .ok (.i2b, 1) := by decide +kernel
theorem dX12_put_75 : decode cX12_put 75 = .ok (.goto 20, 3) := by decide +kernel
theorem dX12_put_78 : decode cX12_put 78 = .ok (.aload_n 0, 1) := by decide +kernel
theorem dX12_put_79 : decode cX12_put 79 = .ok (.getfield 25, 3) := by decide +kernel
theorem dX12_put_82 : decode cX12_put 82 = .ok (.iload_n 1, 1) := by decide +kernel
theorem dX12_put_83 : decode cX12_put 83 = .ok (.iaload, 1) := by decide +kernel
theorem dX12_put_84 : decode cX12_put 84 = .ok (.bipush 16, 2) := by decide +kernel
theorem dX12_put_86 : decode cX12_put 86 = .ok (.if_icmp .ne 8, 3) := by decide +kernel
theorem dX12_put_89 : decode cX12_put 89 = .ok (.iload_n 3, 1) := by decide +kernel
theorem dX12_put_90 : decode cX12_put 90 = .ok (.i2s, 1) := by decide +kernel
theorem dX12_put_91 : decode cX12_put 91 = .ok (.goto 4, 3) := by decide +kernel
theorem dX12_put_94 : decode cX12_put 94 = .ok (.iload_n 3, 1) := by decide +kernel
theorem dX12_put_95 : decode cX12_put 95 = .ok (.iastore, 1) := by decide +kernel
theorem dX12_put_96 : decode cX12_put 96 = .ok (.iconst 1, 1) := by decide +kernel
theorem dX12_put_97 : decode cX12_put 97 = .ok (.ireturn, 1) := by decide +kernel
theorem dX12_move_0 : decode cX12_move 0 = .ok (.iload_n 1, 1) := by decide +kernel
theorem dX12_move_1 : decode cX12_move 1 = .ok (.invokestatic 223, 3) := by decide +kernel
theorem dX12_move_4 : decode cX12_move 4 = .ok (.ifCond .eq 10, 3) := by decide +kernel
theorem dX12_move_7 : decode cX12_move 7 = .ok (.iload_n 3, 1) := by decide +kernel
theorem dX12_move_8 : decode cX12_move 8 = .ok (.invokestatic 223, 3) := by decide +kernel
theorem dX12_move_11 : decode cX12_move 11 = .ok (.ifCond .ne 9, 3) := by decide +kernel
theorem dX12_move_14 : decode cX12_move 14 = .ok (.aload_n 0, 1) := by decide +kernel
theorem dX12_move_15 : decode cX12_move 15 = .ok (.iconst 1, 1) := by decide +kernel
theorem dX12_move_16 : decode cX12_move 16 = .ok (.invokevirtual 121, 3) := by decide +kernel
theorem dX12_move_19 : decode cX12_move 19 = .ok (.ireturn, 1) := by decide +kernel
theorem dX12_move_20 : decode cX12_move 20 = .ok (.aload_n 0, 1) := by decide +kernel
theorem dX12_move_21 : decode cX12_move 21 = .ok (.getfield 25, 3) := by decide +kernel
theorem dX12_move_24 : decode cX12_move 24 = .ok (.iload_n 1, 1) := by decide +kernel
theorem dX12_move_25 : decode cX12_move 25 = .ok (.iaload, 1) := by decide +kernel
theorem dX12_move_26 : decode cX12_move 26 = .ok (.ifCond .eq 12, 3) := by decide +kernel
theorem dX12_move_29 : decode cX12_move 29 = .ok (.aload_n 0, 1) := by decide +kernel
theorem dX12_move_30 : decode cX12_move 30 = .ok (.getfield 25, 3) := by decide +kernel
theorem dX12_move_33 : decode cX12_move 33 = .ok (.iload_n 3, 1) := by decide +kernel
theorem dX12_move_34 : decode cX12_move 34 = .ok (.iaload, 1) := by decide +kernel
theorem dX12_move_35 : decode cX12_move 35 = .ok (.ifCond .ne 9, 3) := by decide +kernel
theorem dX12_move_38 : decode cX12_move 38 = .ok (.aload_n 0, 1) := by decide +kernel
theorem dX12_move_39 : decode cX12_move 39 = .ok (.iconst 2, 1) := by decide +kernel
theorem dX12_move_40 : decode cX12_move 40 = .ok (.invokevirtual 121, 3) := by decide +kernel
theorem dX12_move_43 : decode cX12_move 43 = .ok (.ireturn, 1) := by decide +kernel
theorem dX12_move_44 : decode cX12_move 44 = .ok (.aload_n 0, 1) := by decide +kernel
theorem dX12_move_45 : decode cX12_move 45 = .ok (.getfield 25, 3) := by decide +kernel
theorem dX12_move_48 : decode cX12_move 48 = .ok (.iload_n 1, 1) := by decide +kernel
theorem dX12_move_49 : decode cX12_move 49 = .ok (.iaload, 1) := by decide +kernel
theorem dX12_move_50 : decode cX12_move 50 = .ok (.aload_n 0, 1) := by decide +kernel
theorem dX12_move_51 : decode cX12_move 51 = .ok (.getfield 25, 3) := by decide +kernel
theorem dX12_move_54 : decode cX12_move 54 = .ok (.iload_n 3, 1) := by decide +kernel
theorem dX12_move_55 : decode cX12_move 55 = .ok (.iaload, 1) := by decide +kernel
theorem dX12_move_56 : decode cX12_move 56 = .ok (.if_icmp .eq 9, 3) := by decide +kernel
theorem dX12_move_59 : decode cX12_move 59 = .ok (.aload_n 0, 1) := by decide +kernel
theorem dX12_move_60 : decode cX12_move 60 = .ok (.iconst 5, 1) := by decide +kernel
theorem dX12_move_61 : decode cX12_move 61 = .ok (.invokevirtual 121, 3) := by decide +kernel
theorem dX12_move_64 : decode cX12_move 64 = .ok (.ireturn, 1) := by decide +kernel
theorem dX12_move_65 : decode cX12_move 65 = .ok (.iload 5, 2) := by decide +kernel
theorem dX12_move_67 : decode cX12_move 67 = .ok (.ifCond .lt 39, 3) := by decide +kernel
theorem dX12_move_70 : decode cX12_move 70 = .ok (.iload_n 2, 1) := by decide +kernel
theorem dX12_move_71 : decode cX12_move 71 = .ok (.ifCond .lt 35, 3) := by decide +kernel
theorem dX12_move_74 : decode cX12_move 74 = .ok (.iload 4, 2) := by decide +kernel
theorem dX12_move_76 : decode cX12_move 76 = .ok (.ifCond .lt 30, 3) := by decide +kernel
theorem dX12_move_79 : decode cX12_move 79 = .ok (.iload 5, 2) := by decide +kernel
theorem dX12_move_81 : decode cX12_move 81 = .ok (.aload_n 0, 1) := by decide +kernel
theorem dX12_move_82 : decode cX12_move 82 = .ok (.getfield 28, 3) := by decide +kernel
theorem dX12_move_85 : decode cX12_move 85 = .ok (.iload_n 1, 1) := by decide +kernel
theorem dX12_move_86 : decode cX12_move 86 = .ok (.iaload, 1) := by decide +kernel
theorem dX12_move_87 : decode cX12_move 87 = .ok (.iload_n 2, 1) := by decide +kernel
theorem dX12_move_88 : decode cX12_move 88 = .ok (.isub, 1) := by decide +kernel
theorem dX12_move_89 : decode cX12_move 89 = .ok (.if_icmp .gt 17, 3) := by decide +kernel
theorem dX12_move_92 : decode cX12_move 92 = .ok (.iload 5, 2) := by decide +kernel
theorem dX12_move_94 : decode cX12_move 94 = .ok (.aload_n 0, 1) := by decide +kernel
theorem dX12_move_95 : decode cX12_move 95 = .ok (.getfield 28, 3) := by decide +kernel
theorem dX12_move_98 : decode cX12_move 98 = .ok (.iload_n 3, 1) := by decide +kernel
theorem dX12_move_99 : decode cX12_move 99 = .ok (.iaload, 1) := by decide +kernel
theorem dX12_move_100 : decode cX12_move 100 = .ok (.iload 4, 2) := by decide +kernel
theorem dX12_move_102 : decode cX12_move 102 = .ok (.isub, 1) := by decide +kernel
theorem dX12_move_103 : decode cX12_move 103 = .ok (.if_icmp .le 9, 3) := by decide +kernel
theorem dX12_move_106 : decode cX12_move 106 = .ok (.aload_n 0, 1) := by decide +kernel
theorem dX12_move_107 : decode cX12_move 107 = .ok (.iconst 1, 1) := by decide +kernel
theorem dX12_move_108 : decode cX12_move 108 = .ok (.invokevirtual 121, 3) := by decide +kernel
theorem dX12_move_111 : decode cX12_move 111 = .ok (.ireturn, 1) := by decide +kernel
theorem dX12_move_112 : decode cX12_move 112 = .ok (.iconst 0, 1) := by decide +kernel
theorem dX12_move_113 : decode cX12_move 113 = .ok (.istore 6, 2) := by decide +kernel
theorem dX12_move_115 : decode cX12_move 115 = .ok (.iload 6, 2) := by decide +kernel
theorem dX12_move_117 : decode cX12_move 117 = .ok (.iload 5, 2) := by decide +kernel
theorem dX12_move_119 : decode cX12_move 119 = .ok (.if_icmp .ge 30, 3) := by decide +kernel
theorem dX12_move_122 : decode cX12_move 122 = .ok (.aload_n 0, 1) := by decide +kernel
theorem dX12_move_123 : decode cX12_move 123 = .ok (.getfield 34, 3) := by decide +kernel
theorem dX12_move_126 : decode cX12_move 126 = .ok (.iload 6, 2) := by decide +kernel
theorem dX12_move_128 : decode cX12_move 128 = .ok (.aload_n 0, 1) := by decide +kernel
theorem dX12_move_129 : decode cX12_move 129 = .ok (.getfield 31, 3) := by decide +kernel
theorem dX12_move_132 : decode cX12_move 132 = .ok (.bipush 40, 2) := by decide +kernel
theorem dX12_move_134 : decode cX12_move 134 = .ok (.iload_n 1, 1) := by decide +kernel
theorem dX12_move_135 : decode cX12_move 135 = .ok (.imul, 1) := by decide +kernel
theorem dX12_move_136 : decode cX12_move 136 = .ok (.iload_n 2, 1) := by decide +kernel
theorem dX12_move_137 : decode cX12_move 137 = .ok (.iadd, 1) := by decide +kernel
theorem dX12_move_138 : decode cX12_move 138 = .ok (.iload 6, 2) := by decide +kernel
theorem dX12_move_140 : decode cX12_move 140 = .ok (.iadd, 1) := by decide +kernel
theorem dX12_move_141 : decode cX12_move 141 = .ok (.iaload, 1) := by decide +kernel
theorem dX12_move_142 : decode cX12_move 142 = .ok (.iastore, 1) := by decide +kernel
theorem dX12_move_143 : decode cX12_move 143 = .ok (.iinc 6 1, 3) := by decide +kernel
theorem dX12_move_146 : decode cX12_move 146 = .ok (.goto (-31), 3) := by decide +kernel
theorem dX12_move_149 : decode cX12_move 149 = .ok (.iconst 0, 1) := by decide +kernel
theorem dX12_move_150 : decode cX12_move 150 = .ok (.istore 6, 2) := by decide +kernel
theorem dX12_move_152 : decode cX12_move 152 = .ok (.iload 6, 2) := by decide +kernel
theorem dX12_move_154 : decode cX12_move 154 = .ok (.iload 5, 2) := by decide +kernel
theorem dX12_move_156 : decode cX12_move 156 = .ok (.if_icmp .ge 31, 3) := by decide +kernel
theorem dX12_move_159 : decode cX12_move 159 = .ok (.aload_n 0, 1) := by decide +kernel
theorem dX12_move_160 : decode cX12_move 160 = .ok (.getfield 31, 3) := by decide +kernel
theorem dX12_move_163 : decode cX12_move 163 = .ok (.bipush 40, 2) := by decide +kernel
theorem dX12_move_165 : decode cX12_move 165 = .ok (.iload_n 3, 1) := by decide +kernel
theorem dX12_move_166 : decode cX12_move 166 = .ok (.imul, 1) := by decide +kernel
theorem dX12_move_167 : decode cX12_move 167 = .ok (.iload 4, 2) := by decide +kernel
theorem dX12_move_169 : decode cX12_move 169 = .ok (.iadd, 1) := by decide +kernel
theorem dX12_move_170 : decode cX12_move 170 = .ok (.iload 6, 2) := by decide +kernel
theorem dX12_move_172 : decode cX12_move 172 = .ok (.iadd, 1) := by decide +kernel
theorem dX12_move_173 : decode cX12_move 173 = .ok (.aload_n 0, 1) := by decide +kernel
theorem dX12_move_174 : decode cX12_move 174 = .ok (.getfield 34, 3) := by decide +kernel
theorem dX12_move_177 : decode cX12_move 177 = .ok (.iload 6, 2) := by decide +kernel
theorem dX12_move_179 : decode cX12_move 179 = .ok (.iaload, 1) := by decide +kernel
theorem dX12_move_180 : decode cX12_move 180 = .ok (.iastore, 1) := by decide +kernel
theorem dX12_move_181 : decode cX12_move 181 = .ok (.iinc 6 1, 3) := by decide +kernel
theorem dX12_move_184 : decode cX12_move 184 = .ok (.goto (-32), 3) := by decide +kernel
theorem dX12_move_187 : decode cX12_move 187 = .ok (.iload 5, 2) := by decide +kernel
theorem dX12_move_189 : decode cX12_move 189 = .ok (.ireturn, 1) := by decide +kernel
theorem dX12_whyNot_0 : decode cX12_whyNot 0 = .ok (.iload_n 1, 1) := by decide +kernel
theorem dX12_whyNot_1 : decode cX12_whyNot 1 = .ok (.invokestatic 223, 3) := by decide +kernel
theorem dX12_whyNot_4 : decode cX12_whyNot 4 = .ok (.ifCond .ne 7, 3) := by decide +kernel
theorem dX12_whyNot_7 : decode cX12_whyNot 7 = .ok (.iconst 1, 1) := by decide +kernel
theorem dX12_whyNot_8 : decode cX12_whyNot 8 = .ok (.goto 17, 3) := by decide +kernel
theorem dX12_whyNot_11 : decode cX12_whyNot 11 = .ok (.aload_n 0, 1) := by decide +kernel
theorem dX12_whyNot_12 : decode cX12_whyNot 12 = .ok (.getfield 25, 3) := by decide +kernel
theorem dX12_whyNot_15 : decode cX12_whyNot 15 = .ok (.iload_n 1, 1) := by decide +kernel
theorem dX12_whyNot_16 : decode cX12_whyNot 16 = .ok (.iaload, 1) := by decide +kernel
theorem dX12_whyNot_17 : decode cX12_whyNot 17 = .ok (.ifCond .ne 7, 3) := by decide +kernel
theorem dX12_whyNot_20 : decode cX12_whyNot 20 = .ok (.iconst 2, 1) := by decide +kernel
theorem dX12_whyNot_21 : decode cX12_whyNot 21 = .ok (.goto 4, 3) := by decide +kernel
theorem dX12_whyNot_24 : decode cX12_whyNot 24 = .ok (.iconst 0, 1) := by decide +kernel
theorem dX12_whyNot_25 : decode cX12_whyNot 25 = .ok (.ireturn, 1) := by decide +kernel
theorem dX12_fitsAt_0 : decode cX12_fitsAt 0 = .ok (.iload_n 2, 1) := by decide +kernel
theorem dX12_fitsAt_1 : decode cX12_fitsAt 1 = .ok (.iconst 2, 1) := by decide +kernel
theorem dX12_fitsAt_2 : decode cX12_fitsAt 2 = .ok (.aload_n 0, 1) := by decide +kernel
theorem dX12_fitsAt_3 : decode cX12_fitsAt 3 = .ok (.invokevirtual 171, 3) := by decide +kernel
theorem dX12_fitsAt_6 : decode cX12_fitsAt 6 = .ok (.imul, 1) := by decide +kernel
theorem dX12_fitsAt_7 : decode cX12_fitsAt 7 = .ok (.iadd, 1) := by decide +kernel
theorem dX12_fitsAt_8 : decode cX12_fitsAt 8 = .ok (.aload_n 0, 1) := by decide +kernel
theorem dX12_fitsAt_9 : decode cX12_fitsAt 9 = .ok (.getfield 37, 3) := by decide +kernel
theorem dX12_fitsAt_12 : decode cX12_fitsAt 12 = .ok (.iload_n 1, 1) := by decide +kernel
theorem dX12_fitsAt_13 : decode cX12_fitsAt 13 = .ok (.iaload, 1) := by decide +kernel
theorem dX12_fitsAt_14 : decode cX12_fitsAt 14 = .ok (.iadd, 1) := by decide +kernel
theorem dX12_fitsAt_15 : decode cX12_fitsAt 15 = .ok (.istore_n 3, 1) := by decide +kernel
theorem dX12_fitsAt_16 : decode cX12_fitsAt 16 = .ok (.iconst 0, 1) := by decide +kernel
theorem dX12_fitsAt_17 : decode cX12_fitsAt 17 = .ok (.istore 4, 2) := by decide +kernel
theorem dX12_fitsAt_19 : decode cX12_fitsAt 19 = .ok (.iload 4, 2) := by decide +kernel
theorem dX12_fitsAt_21 : decode cX12_fitsAt 21 = .ok (.iload_n 1, 1) := by decide +kernel
theorem dX12_fitsAt_22 : decode cX12_fitsAt 22 = .ok (.if_icmp .ge 69, 3) := by decide +kernel
theorem dX12_fitsAt_25 : decode cX12_fitsAt 25 = .ok (.aload_n 0, 1) := by decide +kernel
theorem dX12_fitsAt_26 : decode cX12_fitsAt 26 = .ok (.getfield 40, 3) := by decide +kernel
theorem dX12_fitsAt_29 : decode cX12_fitsAt 29 = .ok (.iload 4, 2) := by decide +kernel
theorem dX12_fitsAt_31 : decode cX12_fitsAt 31 = .ok (.iaload, 1) := by decide +kernel
theorem dX12_fitsAt_32 : decode cX12_fitsAt 32 = .ok (.iconst 2, 1) := by decide +kernel
theorem dX12_fitsAt_33 : decode cX12_fitsAt 33 = .ok (.aload_n 0, 1) := by decide +kernel
theorem dX12_fitsAt_34 : decode cX12_fitsAt 34 = .ok (.invokevirtual 171, 3) := by decide +kernel
theorem dX12_fitsAt_37 : decode cX12_fitsAt 37 = .ok (.imul, 1) := by decide +kernel
theorem dX12_fitsAt_38 : decode cX12_fitsAt 38 = .ok (.iadd, 1) := by decide +kernel
theorem dX12_fitsAt_39 : decode cX12_fitsAt 39 = .ok (.aload_n 0, 1) := by decide +kernel
theorem dX12_fitsAt_40 : decode cX12_fitsAt 40 = .ok (.getfield 37, 3) := by decide +kernel
theorem dX12_fitsAt_43 : decode cX12_fitsAt 43 = .ok (.iload 4, 2) := by decide +kernel
theorem dX12_fitsAt_45 : decode cX12_fitsAt 45 = .ok (.iaload, 1) := by decide +kernel
theorem dX12_fitsAt_46 : decode cX12_fitsAt 46 = .ok (.iadd, 1) := by decide +kernel
theorem dX12_fitsAt_47 : decode cX12_fitsAt 47 = .ok (.istore 5, 2) := by decide +kernel
theorem dX12_fitsAt_49 : decode cX12_fitsAt 49 = .ok (.aload_n 0, 1) := by decide +kernel
theorem dX12_fitsAt_50 : decode cX12_fitsAt 50 = .ok (.getfield 40, 3) := by decide +kernel
theorem dX12_fitsAt_53 : decode cX12_fitsAt 53 = .ok (.iload 4, 2) := by decide +kernel
theorem dX12_fitsAt_55 : decode cX12_fitsAt 55 = .ok (.iaload, 1) := by decide +kernel
theorem dX12_fitsAt_56 : decode cX12_fitsAt 56 = .ok (.iload_n 2, 1) := by decide +kernel
theorem dX12_fitsAt_57 : decode cX12_fitsAt 57 = .ok (.if_icmp .eq 26, 3) := by decide +kernel
theorem dX12_fitsAt_60 : decode cX12_fitsAt 60 = .ok (.iload 5, 2) := by decide +kernel
theorem dX12_fitsAt_62 : decode cX12_fitsAt 62 = .ok (.iload_n 3, 1) := by decide +kernel
theorem dX12_fitsAt_63 : decode cX12_fitsAt 63 = .ok (.if_icmp .eq 20, 3) := by decide +kernel
theorem dX12_fitsAt_66 : decode cX12_fitsAt 66 = .ok (.iload 5, 2) := by decide +kernel
theorem dX12_fitsAt_68 : decode cX12_fitsAt 68 = .ok (.iload_n 2, 1) := by decide +kernel
theorem dX12_fitsAt_69 : decode cX12_fitsAt 69 = .ok (.if_icmp .eq 14, 3) := by decide +kernel
theorem dX12_fitsAt_72 : decode cX12_fitsAt 72 = .ok (.aload_n 0, 1) := by decide +kernel
theorem dX12_fitsAt_73 : decode cX12_fitsAt 73 = .ok (.getfield 40, 3) := by decide +kernel
theorem dX12_fitsAt_76 : decode cX12_fitsAt 76 = .ok (.iload 4, 2) := by decide +kernel
theorem dX12_fitsAt_78 : decode cX12_fitsAt 78 = .ok (.iaload, 1) := by decide +kernel
theorem dX12_fitsAt_79 : decode cX12_fitsAt 79 = .ok (.iload_n 3, 1) := by decide +kernel
theorem dX12_fitsAt_80 : decode cX12_fitsAt 80 = .ok (.if_icmp .ne 5, 3) := by decide +kernel
theorem dX12_fitsAt_83 : decode cX12_fitsAt 83 = .ok (.iconst 0, 1) := by decide +kernel
theorem dX12_fitsAt_84 : decode cX12_fitsAt 84 = .ok (.ireturn, 1) := by decide +kernel
theorem dX12_fitsAt_85 : decode cX12_fitsAt 85 = .ok (.iinc 4 1, 3) := by decide +kernel
theorem dX12_fitsAt_88 : decode cX12_fitsAt 88 = .ok (.goto (-69), 3) := by decide +kernel
theorem dX12_fitsAt_91 : decode cX12_fitsAt 91 = .ok (.iconst 1, 1) := by decide +kernel
theorem dX12_fitsAt_92 : decode cX12_fitsAt 92 = .ok (.ireturn, 1) := by decide +kernel
theorem dX12_nextFor_0 : decode cX12_nextFor 0 = .ok (.aload_n 0, 1) := by decide +kernel
theorem dX12_nextFor_1 : decode cX12_nextFor 1 = .ok (.getfield 40, 3) := by decide +kernel
theorem dX12_nextFor_4 : decode cX12_nextFor 4 = .ok (.iload_n 1, 1) := by decide +kernel
theorem dX12_nextFor_5 : decode cX12_nextFor 5 = .ok (.iaload, 1) := by decide +kernel
theorem dX12_nextFor_6 : decode cX12_nextFor 6 = .ok (.iconst 1, 1) := by decide +kernel
theorem dX12_nextFor_7 : decode cX12_nextFor 7 = .ok (.iadd, 1) := by decide +kernel
theorem dX12_nextFor_8 : decode cX12_nextFor 8 = .ok (.istore_n 3, 1) := by decide +kernel
theorem dX12_nextFor_9 : decode cX12_nextFor 9 = .ok (.iload_n 3, 1) := by decide +kernel
theorem dX12_nextFor_10 : decode cX12_nextFor 10 = .ok (.iconst 2, 1) := by decide +kernel
theorem dX12_nextFor_11 : decode cX12_nextFor 11 = .ok (.aload_n 0, 1) := by decide +kernel
theorem dX12_nextFor_12 : decode cX12_nextFor 12 = .ok (.invokevirtual 171, 3) := by decide +kernel
theorem dX12_nextFor_15 : decode cX12_nextFor 15 = .ok (.imul, 1) := by decide +kernel
theorem dX12_nextFor_16 : decode cX12_nextFor 16 = .ok (.iadd, 1) := by decide +kernel
theorem dX12_nextFor_17 : decode cX12_nextFor 17 = .ok (.aload_n 0, 1) := by decide +kernel
theorem dX12_nextFor_18 : decode cX12_nextFor 18 = .ok (.getfield 37, 3) := by decide +kernel
theorem dX12_nextFor_21 : decode cX12_nextFor 21 = .ok (.iload_n 1, 1) := by decide +kernel
theorem dX12_nextFor_22 : decode cX12_nextFor 22 = .ok (.iaload, 1) := by decide +kernel
theorem dX12_nextFor_23 : decode cX12_nextFor 23 = .ok (.iadd, 1) := by decide +kernel
theorem dX12_nextFor_24 : decode cX12_nextFor 24 = .ok (.iload_n 2, 1) := by decide +kernel
theorem dX12_nextFor_25 : decode cX12_nextFor 25 = .ok (.if_icmp .gt 20, 3) := by decide +kernel
theorem dX12_nextFor_28 : decode cX12_nextFor 28 = .ok (.aload_n 0, 1) := by decide +kernel
theorem dX12_nextFor_29 : decode cX12_nextFor 29 = .ok (.iload_n 1, 1) := by decide +kernel
theorem dX12_nextFor_30 : decode cX12_nextFor 30 = .ok (.iload_n 3, 1) := by decide +kernel
theorem dX12_nextFor_31 : decode cX12_nextFor 31 = .ok (.invokevirtual 226, 3) := by decide +kernel
theorem dX12_nextFor_34 : decode cX12_nextFor 34 = .ok (.ifCond .eq 5, 3) := by decide +kernel
theorem dX12_nextFor_37 : decode cX12_nextFor 37 = .ok (.iload_n 3, 1) := by decide +kernel
theorem dX12_nextFor_38 : decode cX12_nextFor 38 = .ok (.ireturn, 1) := by decide +kernel
theorem dX12_nextFor_39 : decode cX12_nextFor 39 = .ok (.iinc 3 1, 3) := by decide +kernel
theorem dX12_nextFor_42 : decode cX12_nextFor 42 = .ok (.goto (-33), 3) := by decide +kernel
theorem dX12_nextFor_45 : decode cX12_nextFor 45 = .ok (.iconst (-1), 1) := by decide +kernel
theorem dX12_nextFor_46 : decode cX12_nextFor 46 = .ok (.ireturn, 1) := by decide +kernel
theorem dX12_fitsBy_0 : decode cX12_fitsBy 0 = .ok (.iconst 0, 1) := by decide +kernel
theorem dX12_fitsBy_1 : decode cX12_fitsBy 1 = .ok (.istore_n 2, 1) := by decide +kernel
theorem dX12_fitsBy_2 : decode cX12_fitsBy 2 = .ok (.aload_n 0, 1) := by decide +kernel
theorem dX12_fitsBy_3 : decode cX12_fitsBy 3 = .ok (.getfield 40, 3) := by decide +kernel
theorem dX12_fitsBy_6 : decode cX12_fitsBy 6 = .ok (.iconst 0, 1) := by decide +kernel
theorem dX12_fitsBy_7 : decode cX12_fitsBy 7 = .ok (.iconst (-1), 1) := by decide +kernel
theorem dX12_fitsBy_8 : decode cX12_fitsBy 8 = .ok (.iastore, 1) := by decide +kernel
theorem dX12_fitsBy_9 : decode cX12_fitsBy 9 = .ok (.iload_n 2, 1) := by decide +kernel
theorem dX12_fitsBy_10 : decode cX12_fitsBy 10 = .ok (.ifCond .lt 52, 3) := by decide +kernel
theorem dX12_fitsBy_13 : decode cX12_fitsBy 13 = .ok (.aload_n 0, 1) := by decide +kernel
theorem dX12_fitsBy_14 : decode cX12_fitsBy 14 = .ok (.iload_n 2, 1) := by decide +kernel
theorem dX12_fitsBy_15 : decode cX12_fitsBy 15 = .ok (.iload_n 1, 1) := by decide +kernel
theorem dX12_fitsBy_16 : decode cX12_fitsBy 16 = .ok (.invokevirtual 230, 3) := by decide +kernel
theorem dX12_fitsBy_19 : decode cX12_fitsBy 19 = .ok (.istore_n 3, 1) := by decide +kernel
theorem dX12_fitsBy_20 : decode cX12_fitsBy 20 = .ok (.aload_n 0, 1) := by decide +kernel
theorem dX12_fitsBy_21 : decode cX12_fitsBy 21 = .ok (.getfield 40, 3) := by decide +kernel
theorem dX12_fitsBy_24 : decode cX12_fitsBy 24 = .ok (.iload_n 2, 1) := by decide +kernel
theorem dX12_fitsBy_25 : decode cX12_fitsBy 25 = .ok (.iload_n 3, 1) := by decide +kernel
theorem dX12_fitsBy_26 : decode cX12_fitsBy 26 = .ok (.iastore, 1) := by decide +kernel
theorem dX12_fitsBy_27 : decode cX12_fitsBy 27 = .ok (.iload_n 3, 1) := by decide +kernel
theorem dX12_fitsBy_28 : decode cX12_fitsBy 28 = .ok (.ifCond .ge 9, 3) := by decide +kernel
theorem dX12_fitsBy_31 : decode cX12_fitsBy 31 = .ok (.iinc 2 (-1), 3) := by decide +kernel
theorem dX12_fitsBy_34 : decode cX12_fitsBy 34 = .ok (.goto 25, 3) := by decide +kernel
theorem dX12_fitsBy_37 : decode cX12_fitsBy 37 = .ok (.iload_n 2, 1) := by decide +kernel
theorem dX12_fitsBy_38 : decode cX12_fitsBy 38 = .ok (.aload_n 0, 1) := by decide +kernel
theorem dX12_fitsBy_39 : decode cX12_fitsBy 39 = .ok (.getfield 233, 3) := by decide +kernel
theorem dX12_fitsBy_42 : decode cX12_fitsBy 42 = .ok (.iconst 1, 1) := by decide +kernel
theorem dX12_fitsBy_43 : decode cX12_fitsBy 43 = .ok (.isub, 1) := by decide +kernel
theorem dX12_fitsBy_44 : decode cX12_fitsBy 44 = .ok (.if_icmp .ne 5, 3) := by decide +kernel
theorem dX12_fitsBy_47 : decode cX12_fitsBy 47 = .ok (.iconst 1, 1) := by decide +kernel
theorem dX12_fitsBy_48 : decode cX12_fitsBy 48 = .ok (.ireturn, 1) := by decide +kernel
theorem dX12_fitsBy_49 : decode cX12_fitsBy 49 = .ok (.iinc 2 1, 3) := by decide +kernel
theorem dX12_fitsBy_52 : decode cX12_fitsBy 52 = .ok (.aload_n 0, 1) := by decide +kernel
theorem dX12_fitsBy_53 : decode cX12_fitsBy 53 = .ok (.getfield 40, 3) := by decide +kernel
theorem dX12_fitsBy_56 : decode cX12_fitsBy 56 = .ok (.iload_n 2, 1) := by decide +kernel
theorem dX12_fitsBy_57 : decode cX12_fitsBy 57 = .ok (.iconst (-1), 1) := by decide +kernel
theorem dX12_fitsBy_58 : decode cX12_fitsBy 58 = .ok (.iastore, 1) := by decide +kernel
theorem dX12_fitsBy_59 : decode cX12_fitsBy 59 = .ok (.goto (-50), 3) := by decide +kernel
theorem dX12_fitsBy_62 : decode cX12_fitsBy 62 = .ok (.iconst 0, 1) := by decide +kernel
theorem dX12_fitsBy_63 : decode cX12_fitsBy 63 = .ok (.ireturn, 1) := by decide +kernel
theorem dX12_lesson_0 : decode cX12_lesson 0 = .ok (.aload_n 0, 1) := by decide +kernel
theorem dX12_lesson_1 : decode cX12_lesson 1 = .ok (.iload_n 1, 1) := by decide +kernel
theorem dX12_lesson_2 : decode cX12_lesson 2 = .ok (.invokevirtual 236, 3) := by decide +kernel
theorem dX12_lesson_5 : decode cX12_lesson 5 = .ok (.istore_n 2, 1) := by decide +kernel
theorem dX12_lesson_6 : decode cX12_lesson 6 = .ok (.iload_n 2, 1) := by decide +kernel
theorem dX12_lesson_7 : decode cX12_lesson 7 = .ok (.ifCond .eq 9, 3) := by decide +kernel
theorem dX12_lesson_10 : decode cX12_lesson 10 = .ok (.aload_n 0, 1) := by decide +kernel
theorem dX12_lesson_11 : decode cX12_lesson 11 = .ok (.iload_n 2, 1) := by decide +kernel
theorem dX12_lesson_12 : decode cX12_lesson 12 = .ok (.invokevirtual 121, 3) := by decide +kernel
theorem dX12_lesson_15 : decode cX12_lesson 15 = .ok (.ireturn, 1) := by decide +kernel
theorem dX12_lesson_16 : decode cX12_lesson 16 = .ok (.aload_n 0, 1) := by decide +kernel
theorem dX12_lesson_17 : decode cX12_lesson 17 = .ok (.iconst 0, 1) := by decide +kernel
theorem dX12_lesson_18 : decode cX12_lesson 18 = .ok (.putfield 233, 3) := by decide +kernel
theorem dX12_lesson_21 : decode cX12_lesson 21 = .ok (.iconst 0, 1) := by decide +kernel
theorem dX12_lesson_22 : decode cX12_lesson 22 = .ok (.istore_n 3, 1) := by decide +kernel
theorem dX12_lesson_23 : decode cX12_lesson 23 = .ok (.iconst 0, 1) := by decide +kernel
theorem dX12_lesson_24 : decode cX12_lesson 24 = .ok (.istore 4, 2) := by decide +kernel
theorem dX12_lesson_26 : decode cX12_lesson 26 = .ok (.iload 4, 2) := by decide +kernel
theorem dX12_lesson_28 : decode cX12_lesson 28 = .ok (.aload_n 0, 1) := by decide +kernel
theorem dX12_lesson_29 : decode cX12_lesson 29 = .ok (.getfield 28, 3) := by decide +kernel
theorem dX12_lesson_32 : decode cX12_lesson 32 = .ok (.iload_n 1, 1) := by decide +kernel
theorem dX12_lesson_33 : decode cX12_lesson 33 = .ok (.iaload, 1) := by decide +kernel
theorem dX12_lesson_34 : decode cX12_lesson 34 = .ok (.if_icmp .ge 92, 3) := by decide +kernel
theorem dX12_lesson_37 : decode cX12_lesson 37 = .ok (.aload_n 0, 1) := by decide +kernel
theorem dX12_lesson_38 : decode cX12_lesson 38 = .ok (.getfield 233, 3) := by decide +kernel
theorem dX12_lesson_41 : decode cX12_lesson 41 = .ok (.iconst 5, 1) := by decide +kernel
theorem dX12_lesson_42 : decode cX12_lesson 42 = .ok (.if_icmp .ge 84, 3) := by decide +kernel
theorem dX12_lesson_45 : decode cX12_lesson 45 = .ok (.aload_n 0, 1) := by decide +kernel
theorem dX12_lesson_46 : decode cX12_lesson 46 = .ok (.getfield 31, 3) := by decide +kernel
theorem dX12_lesson_49 : decode cX12_lesson 49 = .ok (.bipush 40, 2) := by decide +kernel
theorem dX12_lesson_51 : decode cX12_lesson 51 = .ok (.iload_n 1, 1) := by decide +kernel
theorem dX12_lesson_52 : decode cX12_lesson 52 = .ok (.imul, 1) := by decide +kernel
theorem dX12_lesson_53 : decode cX12_lesson 53 = .ok (.iload 4, 2) := by decide +kernel
theorem dX12_lesson_55 : decode cX12_lesson 55 = .ok (.iadd, 1) := by decide +kernel
theorem dX12_lesson_56 : decode cX12_lesson 56 = .ok (.iaload, 1) := by decide +kernel
theorem dX12_lesson_57 : decode cX12_lesson 57 = .ok (.istore 5, 2) := by decide +kernel
theorem dX12_lesson_59 : decode cX12_lesson 59 = .ok (.iload 5, 2) := by decide +kernel
theorem dX12_lesson_61 : decode cX12_lesson 61 = .ok (.i2l, 1) := by decide +kernel
theorem dX12_lesson_62 : decode cX12_lesson 62 = .ok (.lconst 0, 1) := by decide +kernel
theorem dX12_lesson_63 : decode cX12_lesson 63 = .ok (.ldc2_w 139, 3) := by decide +kernel
theorem dX12_lesson_66 : decode cX12_lesson 66 = .ok (.invokestatic 56, 3) := by decide +kernel
theorem dX12_lesson_69 : decode cX12_lesson 69 = .ok (.ifCond .eq 51, 3) := by decide +kernel
theorem dX12_lesson_72 : decode cX12_lesson 72 = .ok (.aload_n 0, 1) := by decide +kernel
theorem dX12_lesson_73 : decode cX12_lesson 73 = .ok (.getfield 37, 3) := by decide +kernel
theorem dX12_lesson_76 : decode cX12_lesson 76 = .ok (.aload_n 0, 1) := by decide +kernel
theorem dX12_lesson_77 : decode cX12_lesson 77 = .ok (.getfield 233, 3) := by decide +kernel
theorem dX12_lesson_80 : decode cX12_lesson 80 = .ok (.iload 5, 2) := by decide +kernel
theorem dX12_lesson_82 : decode cX12_lesson 82 = .ok (.iastore, 1) := by decide +kernel
theorem dX12_lesson_83 : decode cX12_lesson 83 = .ok (.iconst 2, 1) := by decide +kernel
theorem dX12_lesson_84 : decode cX12_lesson 84 = .ok (.aload_n 0, 1) := by decide +kernel
theorem dX12_lesson_85 : decode cX12_lesson 85 = .ok (.invokevirtual 171, 3) := by decide +kernel
theorem dX12_lesson_88 : decode cX12_lesson 88 = .ok (.imul, 1) := by decide +kernel
theorem dX12_lesson_89 : decode cX12_lesson 89 = .ok (.iload 5, 2) := by decide +kernel
theorem dX12_lesson_91 : decode cX12_lesson 91 = .ok (.iadd, 1) := by decide +kernel
theorem dX12_lesson_92 : decode cX12_lesson 92 = .ok (.iload_n 3, 1) := by decide +kernel
theorem dX12_lesson_93 : decode cX12_lesson 93 = .ok (.if_icmp .le 15, 3) := by decide +kernel
theorem dX12_lesson_96 : decode cX12_lesson 96 = .ok (.iconst 2, 1) := by decide +kernel
theorem dX12_lesson_97 : decode cX12_lesson 97 = .ok (.aload_n 0, 1) := by decide +kernel
theorem dX12_lesson_98 : decode cX12_lesson 98 = .ok (.invokevirtual 171, 3) := by decide +kernel
theorem dX12_lesson_101 : decode cX12_lesson 101 = .ok (.imul, 1) := by decide +kernel
theorem dX12_lesson_102 : decode cX12_lesson 102 = .ok (.iload 5, 2) := by decide +kernel
theorem dX12_lesson_104 : decode cX12_lesson 104 = .ok (.iadd, 1) := by decide +kernel
theorem dX12_lesson_105 : decode cX12_lesson 105 = .ok (.goto 4, 3) := by decide +kernel
theorem dX12_lesson_108 : decode cX12_lesson 108 = .ok (.iload_n 3, 1) := by decide +kernel
theorem dX12_lesson_109 : decode cX12_lesson 109 = .ok (.istore_n 3, 1) := by decide +kernel
theorem dX12_lesson_110 : decode cX12_lesson 110 = .ok (.aload_n 0, 1) := by decide +kernel
theorem dX12_lesson_111 : decode cX12_lesson 111 = .ok (.dup, 1) := by decide +kernel
theorem dX12_lesson_112 : decode cX12_lesson 112 = .ok (.getfield 233, 3) := by decide +kernel
theorem dX12_lesson_115 : decode cX12_lesson 115 = .ok (.iconst 1, 1) := by decide +kernel
theorem dX12_lesson_116 : decode cX12_lesson 116 = .ok (.iadd, 1) := by decide +kernel
theorem dX12_lesson_117 : decode cX12_lesson 117 = .ok (.putfield 233, 3) := by decide +kernel
theorem dX12_lesson_120 : decode cX12_lesson 120 = .ok (.iinc 4 1, 3) := by decide +kernel
theorem dX12_lesson_123 : decode cX12_lesson 123 = .ok (.goto (-97), 3) := by decide +kernel
theorem dX12_lesson_126 : decode cX12_lesson 126 = .ok (.aload_n 0, 1) := by decide +kernel
theorem dX12_lesson_127 : decode cX12_lesson 127 = .ok (.getfield 233, 3) := by decide +kernel
theorem dX12_lesson_130 : decode cX12_lesson 130 = .ok (.ifCond .ne 5, 3) := by decide +kernel
theorem dX12_lesson_133 : decode cX12_lesson 133 = .ok (.iconst (-1), 1) := by decide +kernel
theorem dX12_lesson_134 : decode cX12_lesson 134 = .ok (.ireturn, 1) := by decide +kernel
theorem dX12_lesson_135 : decode cX12_lesson 135 = .ok (.aload_n 0, 1) := by decide +kernel
theorem dX12_lesson_136 : decode cX12_lesson 136 = .ok (.iload_n 3, 1) := by decide +kernel
theorem dX12_lesson_137 : decode cX12_lesson 137 = .ok (.invokevirtual 239, 3) := by decide +kernel
theorem dX12_lesson_140 : decode cX12_lesson 140 = .ok (.ifCond .ne 9, 3) := by decide +kernel
theorem dX12_lesson_143 : decode cX12_lesson 143 = .ok (.iinc 3 1, 3) := by decide +kernel
theorem dX12_lesson_146 : decode cX12_lesson 146 = .ok (.goto (-11), 3) := by decide +kernel
theorem dX12_lesson_149 : decode cX12_lesson 149 = .ok (.iload_n 3, 1) := by decide +kernel
theorem dX12_lesson_150 : decode cX12_lesson 150 = .ok (.ireturn, 1) := by decide +kernel
theorem dX12_fits_0 : decode cX12_fits 0 = .ok (.iconst 0, 1) := by decide +kernel
theorem dX12_fits_1 : decode cX12_fits 1 = .ok (.istore_n 2, 1) := by decide +kernel
theorem dX12_fits_2 : decode cX12_fits 2 = .ok (.iload_n 2, 1) := by decide +kernel
theorem dX12_fits_3 : decode cX12_fits 3 = .ok (.aload_n 0, 1) := by decide +kernel
theorem dX12_fits_4 : decode cX12_fits 4 = .ok (.getfield 242, 3) := by decide +kernel
theorem dX12_fits_7 : decode cX12_fits 7 = .ok (.if_icmp .ge 100, 3) := by decide +kernel
theorem dX12_fits_10 : decode cX12_fits 10 = .ok (.iconst 0, 1) := by decide +kernel
theorem dX12_fits_11 : decode cX12_fits 11 = .ok (.istore_n 3, 1) := by decide +kernel
theorem dX12_fits_12 : decode cX12_fits 12 = .ok (.iload_n 3, 1) := by decide +kernel
theorem dX12_fits_13 : decode cX12_fits 13 = .ok (.iload_n 2, 1) := by decide +kernel
theorem dX12_fits_14 : decode cX12_fits 14 = .ok (.if_icmp .ge 87, 3) := by decide +kernel
theorem dX12_fits_17 : decode cX12_fits 17 = .ok (.aload_n 0, 1) := by decide +kernel
theorem dX12_fits_18 : decode cX12_fits 18 = .ok (.getfield 46, 3) := by decide +kernel
theorem dX12_fits_21 : decode cX12_fits 21 = .ok (.iload_n 2, 1) := by decide +kernel
theorem dX12_fits_22 : decode cX12_fits 22 = .ok (.iaload, 1) := by decide +kernel
theorem dX12_fits_23 : decode cX12_fits 23 = .ok (.istore 4, 2) := by decide +kernel
theorem dX12_fits_25 : decode cX12_fits 25 = .ok (.aload_n 0, 1) := by decide +kernel
theorem dX12_fits_26 : decode cX12_fits 26 = .ok (.getfield 46, 3) := by decide +kernel
theorem dX12_fits_29 : decode cX12_fits 29 = .ok (.iload_n 3, 1) := by decide +kernel
theorem dX12_fits_30 : decode cX12_fits 30 = .ok (.iaload, 1) := by decide +kernel
theorem dX12_fits_31 : decode cX12_fits 31 = .ok (.istore 5, 2) := by decide +kernel
theorem dX12_fits_33 : decode cX12_fits 33 = .ok (.aload_n 0, 1) := by decide +kernel
theorem dX12_fits_34 : decode cX12_fits 34 = .ok (.getfield 43, 3) := by decide +kernel
theorem dX12_fits_37 : decode cX12_fits 37 = .ok (.iload_n 2, 1) := by decide +kernel
theorem dX12_fits_38 : decode cX12_fits 38 = .ok (.iaload, 1) := by decide +kernel
theorem dX12_fits_39 : decode cX12_fits 39 = .ok (.aload_n 0, 1) := by decide +kernel
theorem dX12_fits_40 : decode cX12_fits 40 = .ok (.getfield 43, 3) := by decide +kernel
theorem dX12_fits_43 : decode cX12_fits 43 = .ok (.iload_n 3, 1) := by decide +kernel
theorem dX12_fits_44 : decode cX12_fits 44 = .ok (.iaload, 1) := by decide +kernel
theorem dX12_fits_45 : decode cX12_fits 45 = .ok (.if_icmp .ne 18, 3) := by decide +kernel
theorem dX12_fits_48 : decode cX12_fits 48 = .ok (.iload 4, 2) := by decide +kernel
theorem dX12_fits_50 : decode cX12_fits 50 = .ok (.iload 5, 2) := by decide +kernel
theorem dX12_fits_52 : decode cX12_fits 52 = .ok (.if_icmp .ne 7, 3) := by decide +kernel
theorem dX12_fits_55 : decode cX12_fits 55 = .ok (.iconst 1, 1) := by decide +kernel
theorem dX12_fits_56 : decode cX12_fits 56 = .ok (.goto 30, 3) := by decide +kernel
theorem dX12_fits_59 : decode cX12_fits 59 = .ok (.iconst 0, 1) := by decide +kernel
theorem dX12_fits_60 : decode cX12_fits 60 = .ok (.goto 26, 3) := by decide +kernel
theorem dX12_fits_63 : decode cX12_fits 63 = .ok (.iload 4, 2) := by decide +kernel
theorem dX12_fits_65 : decode cX12_fits 65 = .ok (.iload 5, 2) := by decide +kernel
theorem dX12_fits_67 : decode cX12_fits 67 = .ok (.iload_n 1, 1) := by decide +kernel
theorem dX12_fits_68 : decode cX12_fits 68 = .ok (.iadd, 1) := by decide +kernel
theorem dX12_fits_69 : decode cX12_fits 69 = .ok (.if_icmp .eq 12, 3) := by decide +kernel
theorem dX12_fits_72 : decode cX12_fits 72 = .ok (.iload 5, 2) := by decide +kernel
theorem dX12_fits_74 : decode cX12_fits 74 = .ok (.iload 4, 2) := by decide +kernel
theorem dX12_fits_76 : decode cX12_fits 76 = .ok (.iload_n 1, 1) := by decide +kernel
theorem dX12_fits_77 : decode cX12_fits 77 = .ok (.iadd, 1) := by decide +kernel
theorem dX12_fits_78 : decode cX12_fits 78 = .ok (.if_icmp .ne 7, 3) := by decide +kernel
theorem dX12_fits_81 : decode cX12_fits 81 = .ok (.iconst 1, 1) := by decide +kernel
theorem dX12_fits_82 : decode cX12_fits 82 = .ok (.goto 4, 3) := by decide +kernel
theorem dX12_fits_85 : decode cX12_fits 85 = .ok (.iconst 0, 1) := by decide +kernel
theorem dX12_fits_86 : decode cX12_fits 86 = .ok (.istore 6, 2) := by decide +kernel
theorem dX12_fits_88 : decode cX12_fits 88 = .ok (.iload 6, 2) := by decide +kernel
theorem dX12_fits_90 : decode cX12_fits 90 = .ok (.ifCond .eq 5, 3) := by decide +kernel
theorem dX12_fits_93 : decode cX12_fits 93 = .ok (.iconst 0, 1) := by decide +kernel
theorem dX12_fits_94 : decode cX12_fits 94 = .ok (.ireturn, 1) := by decide +kernel
theorem dX12_fits_95 : decode cX12_fits 95 = .ok (.iinc 3 1, 3) := by decide +kernel
theorem dX12_fits_98 : decode cX12_fits 98 = .ok (.goto (-86), 3) := by decide +kernel
theorem dX12_fits_101 : decode cX12_fits 101 = .ok (.iinc 2 1, 3) := by decide +kernel
theorem dX12_fits_104 : decode cX12_fits 104 = .ok (.goto (-102), 3) := by decide +kernel
theorem dX12_fits_107 : decode cX12_fits 107 = .ok (.iconst 1, 1) := by decide +kernel
theorem dX12_fits_108 : decode cX12_fits 108 = .ok (.ireturn, 1) := by decide +kernel
theorem dX12_poem_0 : decode cX12_poem 0 = .ok (.iload_n 2, 1) := by decide +kernel
theorem dX12_poem_1 : decode cX12_poem 1 = .ok (.i2l, 1) := by decide +kernel
theorem dX12_poem_2 : decode cX12_poem 2 = .ok (.lconst 0, 1) := by decide +kernel
theorem dX12_poem_3 : decode cX12_poem 3 = .ok (.lconst 1, 1) := by decide +kernel
theorem dX12_poem_4 : decode cX12_poem 4 = .ok (.invokestatic 56, 3) := by decide +kernel
theorem dX12_poem_7 : decode cX12_poem 7 = .ok (.ifCond .ne 7, 3) := by decide +kernel
theorem dX12_poem_10 : decode cX12_poem 10 = .ok (.iconst 1, 1) := by decide +kernel
theorem dX12_poem_11 : decode cX12_poem 11 = .ok (.goto 8, 3) := by decide +kernel
theorem dX12_poem_14 : decode cX12_poem 14 = .ok (.aload_n 0, 1) := by decide +kernel
theorem dX12_poem_15 : decode cX12_poem 15 = .ok (.iload_n 1, 1) := by decide +kernel
theorem dX12_poem_16 : decode cX12_poem 16 = .ok (.invokevirtual 236, 3) := by decide +kernel
theorem dX12_poem_19 : decode cX12_poem 19 = .ok (.istore_n 3, 1) := by decide +kernel
theorem dX12_poem_20 : decode cX12_poem 20 = .ok (.iload_n 3, 1) := by decide +kernel
theorem dX12_poem_21 : decode cX12_poem 21 = .ok (.ifCond .eq 9, 3) := by decide +kernel
theorem dX12_poem_24 : decode cX12_poem 24 = .ok (.aload_n 0, 1) := by decide +kernel
theorem dX12_poem_25 : decode cX12_poem 25 = .ok (.iload_n 3, 1) := by decide +kernel
theorem dX12_poem_26 : decode cX12_poem 26 = .ok (.invokevirtual 121, 3) := by decide +kernel
theorem dX12_poem_29 : decode cX12_poem 29 = .ok (.ireturn, 1) := by decide +kernel
theorem dX12_poem_30 : decode cX12_poem 30 = .ok (.aload_n 0, 1) := by decide +kernel
theorem dX12_poem_31 : decode cX12_poem 31 = .ok (.iconst 0, 1) := by decide +kernel
theorem dX12_poem_32 : decode cX12_poem 32 = .ok (.putfield 242, 3) := by decide +kernel
theorem dX12_poem_35 : decode cX12_poem 35 = .ok (.iconst 0, 1) := by decide +kernel
theorem dX12_poem_36 : decode cX12_poem 36 = .ok (.istore 4, 2) := by decide +kernel
theorem dX12_poem_38 : decode cX12_poem 38 = .ok (.iload 4, 2) := by decide +kernel
theorem dX12_poem_40 : decode cX12_poem 40 = .ok (.iconst 1, 1) := by decide +kernel
theorem dX12_poem_41 : decode cX12_poem 41 = .ok (.iadd, 1) := by decide +kernel
theorem dX12_poem_42 : decode cX12_poem 42 = .ok (.aload_n 0, 1) := by decide +kernel
theorem dX12_poem_43 : decode cX12_poem 43 = .ok (.getfield 28, 3) := by decide +kernel
theorem dX12_poem_46 : decode cX12_poem 46 = .ok (.iload_n 1, 1) := by decide +kernel
theorem dX12_poem_47 : decode cX12_poem 47 = .ok (.iaload, 1) := by decide +kernel
theorem dX12_poem_48 : decode cX12_poem 48 = .ok (.if_icmp .ge 104, 3) := by decide +kernel
theorem dX12_poem_51 : decode cX12_poem 51 = .ok (.aload_n 0, 1) := by decide +kernel
theorem dX12_poem_52 : decode cX12_poem 52 = .ok (.getfield 242, 3) := by decide +kernel
theorem dX12_poem_55 : decode cX12_poem 55 = .ok (.bipush 12, 2) := by decide +kernel
theorem dX12_poem_57 : decode cX12_poem 57 = .ok (.if_icmp .ge 95, 3) := by decide +kernel
theorem dX12_poem_60 : decode cX12_poem 60 = .ok (.aload_n 0, 1) := by decide +kernel
theorem dX12_poem_61 : decode cX12_poem 61 = .ok (.getfield 31, 3) := by decide +kernel
theorem dX12_poem_64 : decode cX12_poem 64 = .ok (.bipush 40, 2) := by decide +kernel
theorem dX12_poem_66 : decode cX12_poem 66 = .ok (.iload_n 1, 1) := by decide +kernel
theorem dX12_poem_67 : decode cX12_poem 67 = .ok (.imul, 1) := by decide +kernel
theorem dX12_poem_68 : decode cX12_poem 68 = .ok (.iload 4, 2) := by decide +kernel
theorem dX12_poem_70 : decode cX12_poem 70 = .ok (.iadd, 1) := by decide +kernel
theorem dX12_poem_71 : decode cX12_poem 71 = .ok (.iaload, 1) := by decide +kernel
theorem dX12_poem_72 : decode cX12_poem 72 = .ok (.istore 5, 2) := by decide +kernel
theorem dX12_poem_74 : decode cX12_poem 74 = .ok (.aload_n 0, 1) := by decide +kernel
theorem dX12_poem_75 : decode cX12_poem 75 = .ok (.getfield 31, 3) := by decide +kernel
theorem dX12_poem_78 : decode cX12_poem 78 = .ok (.bipush 40, 2) := by decide +kernel
theorem dX12_poem_80 : decode cX12_poem 80 = .ok (.iload_n 1, 1) := by decide +kernel
theorem dX12_poem_81 : decode cX12_poem 81 = .ok (.imul, 1) := by decide +kernel
theorem dX12_poem_82 : decode cX12_poem 82 = .ok (.iload 4, 2) := by decide +kernel
theorem dX12_poem_84 : decode cX12_poem 84 = .ok (.iadd, 1) := by decide +kernel
theorem dX12_poem_85 : decode cX12_poem 85 = .ok (.iconst 1, 1) := by decide +kernel
theorem dX12_poem_86 : decode cX12_poem 86 = .ok (.iadd, 1) := by decide +kernel
theorem dX12_poem_87 : decode cX12_poem 87 = .ok (.iaload, 1) := by decide +kernel
theorem dX12_poem_88 : decode cX12_poem 88 = .ok (.istore 6, 2) := by decide +kernel
theorem dX12_poem_90 : decode cX12_poem 90 = .ok (.iload 5, 2) := by decide +kernel
theorem dX12_poem_92 : decode cX12_poem 92 = .ok (.i2l, 1) := by decide +kernel
theorem dX12_poem_93 : decode cX12_poem 93 = .ok (.lconst 0, 1) := by decide +kernel
theorem dX12_poem_94 : decode cX12_poem 94 = .ok (.lconst 1, 1) := by decide +kernel
theorem dX12_poem_95 : decode cX12_poem 95 = .ok (.invokestatic 56, 3) := by decide +kernel
theorem dX12_poem_98 : decode cX12_poem 98 = .ok (.ifCond .eq 48, 3) := by decide +kernel
theorem dX12_poem_101 : decode cX12_poem 101 = .ok (.iload 6, 2) := by decide +kernel
theorem dX12_poem_103 : decode cX12_poem 103 = .ok (.i2l, 1) := by decide +kernel
theorem dX12_poem_104 : decode cX12_poem 104 = .ok (.lconst 0, 1) := by decide +kernel
theorem dX12_poem_105 : decode cX12_poem 105 = .ok (.ldc2_w 245, 3) := by decide +kernel
theorem dX12_poem_108 : decode cX12_poem 108 = .ok (.invokestatic 56, 3) := by decide +kernel
theorem dX12_poem_111 : decode cX12_poem 111 = .ok (.ifCond .eq 35, 3) := by decide +kernel
theorem dX12_poem_114 : decode cX12_poem 114 = .ok (.aload_n 0, 1) := by decide +kernel
theorem dX12_poem_115 : decode cX12_poem 115 = .ok (.getfield 43, 3) := by decide +kernel
theorem dX12_poem_118 : decode cX12_poem 118 = .ok (.aload_n 0, 1) := by decide +kernel
theorem dX12_poem_119 : decode cX12_poem 119 = .ok (.getfield 242, 3) := by decide +kernel
theorem dX12_poem_122 : decode cX12_poem 122 = .ok (.iload 5, 2) := by decide +kernel
theorem dX12_poem_124 : decode cX12_poem 124 = .ok (.iastore, 1) := by decide +kernel
theorem dX12_poem_125 : decode cX12_poem 125 = .ok (.aload_n 0, 1) := by decide +kernel
theorem dX12_poem_126 : decode cX12_poem 126 = .ok (.getfield 46, 3) := by decide +kernel
theorem dX12_poem_129 : decode cX12_poem 129 = .ok (.aload_n 0, 1) := by decide +kernel
theorem dX12_poem_130 : decode cX12_poem 130 = .ok (.getfield 242, 3) := by decide +kernel
theorem dX12_poem_133 : decode cX12_poem 133 = .ok (.iload 6, 2) := by decide +kernel
theorem dX12_poem_135 : decode cX12_poem 135 = .ok (.iastore, 1) := by decide +kernel
theorem dX12_poem_136 : decode cX12_poem 136 = .ok (.aload_n 0, 1) := by decide +kernel
theorem dX12_poem_137 : decode cX12_poem 137 = .ok (.dup, 1) := by decide +kernel
theorem dX12_poem_138 : decode cX12_poem 138 = .ok (.getfield 242, 3) := by decide +kernel
theorem dX12_poem_141 : decode cX12_poem 141 = .ok (.iconst 1, 1) := by decide +kernel
theorem dX12_poem_142 : decode cX12_poem 142 = .ok (.iadd, 1) := by decide +kernel
theorem dX12_poem_143 : decode cX12_poem 143 = .ok (.putfield 242, 3) := by decide +kernel
theorem dX12_poem_146 : decode cX12_poem 146 = .ok (.iinc 4 2, 3) := by decide +kernel
theorem dX12_poem_149 : decode cX12_poem 149 = .ok (.goto (-111), 3) := by decide +kernel
theorem dX12_poem_152 : decode cX12_poem 152 = .ok (.iconst (-1), 1) := by decide +kernel
theorem dX12_poem_153 : decode cX12_poem 153 = .ok (.istore 4, 2) := by decide +kernel
theorem dX12_poem_155 : decode cX12_poem 155 = .ok (.iconst 0, 1) := by decide +kernel
theorem dX12_poem_156 : decode cX12_poem 156 = .ok (.istore 5, 2) := by decide +kernel
theorem dX12_poem_158 : decode cX12_poem 158 = .ok (.bipush 40, 2) := by decide +kernel
theorem dX12_poem_160 : decode cX12_poem 160 = .ok (.istore 6, 2) := by decide +kernel
theorem dX12_poem_162 : decode cX12_poem 162 = .ok (.iload 6, 2) := by decide +kernel
theorem dX12_poem_164 : decode cX12_poem 164 = .ok (.ifCond .lt 46, 3) := by decide +kernel
theorem dX12_poem_167 : decode cX12_poem 167 = .ok (.aload_n 0, 1) := by decide +kernel
theorem dX12_poem_168 : decode cX12_poem 168 = .ok (.iload 6, 2) := by decide +kernel
theorem dX12_poem_170 : decode cX12_poem 170 = .ok (.invokevirtual 247, 3) := by decide +kernel
theorem dX12_poem_173 : decode cX12_poem 173 = .ok (.istore 7, 2) := by decide +kernel
theorem dX12_poem_175 : decode cX12_poem 175 = .ok (.iload 7, 2) := by decide +kernel
theorem dX12_poem_177 : decode cX12_poem 177 = .ok (.ifCond .eq 8, 3) := by decide +kernel
theorem dX12_poem_180 : decode cX12_poem 180 = .ok (.iload 6, 2) := by decide +kernel
theorem dX12_poem_182 : decode cX12_poem 182 = .ok (.goto 5, 3) := by decide +kernel
theorem dX12_poem_185 : decode cX12_poem 185 = .ok (.iload 4, 2) := by decide +kernel
theorem dX12_poem_187 : decode cX12_poem 187 = .ok (.istore 4, 2) := by decide +kernel
theorem dX12_poem_189 : decode cX12_poem 189 = .ok (.iload 5, 2) := by decide +kernel
theorem dX12_poem_191 : decode cX12_poem 191 = .ok (.iload 7, 2) := by decide +kernel
theorem dX12_poem_193 : decode cX12_poem 193 = .ok (.ifCond .eq 7, 3) := by decide +kernel
theorem dX12_poem_196 : decode cX12_poem 196 = .ok (.iconst 1, 1) := by decide +kernel
theorem dX12_poem_197 : decode cX12_poem 197 = .ok (.goto 4, 3) := by decide +kernel
theorem dX12_poem_200 : decode cX12_poem 200 = .ok (.iconst 0, 1) := by decide +kernel
theorem dX12_poem_201 : decode cX12_poem 201 = .ok (.iadd, 1) := by decide +kernel
theorem dX12_poem_202 : decode cX12_poem 202 = .ok (.istore 5, 2) := by decide +kernel
theorem dX12_poem_204 : decode cX12_poem 204 = .ok (.iinc 6 (-1), 3) := by decide +kernel
theorem dX12_poem_207 : decode cX12_poem 207 = .ok (.goto (-45), 3) := by decide +kernel
theorem dX12_poem_210 : decode cX12_poem 210 = .ok (.iload_n 2, 1) := by decide +kernel
theorem dX12_poem_211 : decode cX12_poem 211 = .ok (.ifCond .ne 8, 3) := by decide +kernel
theorem dX12_poem_214 : decode cX12_poem 214 = .ok (.iload 4, 2) := by decide +kernel
theorem dX12_poem_216 : decode cX12_poem 216 = .ok (.goto 5, 3) := by decide +kernel
theorem dX12_poem_219 : decode cX12_poem 219 = .ok (.iload 5, 2) := by decide +kernel
theorem dX12_poem_221 : decode cX12_poem 221 = .ok (.ireturn, 1) := by decide +kernel
theorem dX12_heard_0 : decode cX12_heard 0 = .ok (.iload_n 2, 1) := by decide +kernel
theorem dX12_heard_1 : decode cX12_heard 1 = .ok (.i2l, 1) := by decide +kernel
theorem dX12_heard_2 : decode cX12_heard 2 = .ok (.lconst 0, 1) := by decide +kernel
theorem dX12_heard_3 : decode cX12_heard 3 = .ok (.ldc2_w 137, 3) := by decide +kernel
theorem dX12_heard_6 : decode cX12_heard 6 = .ok (.invokestatic 56, 3) := by decide +kernel
theorem dX12_heard_9 : decode cX12_heard 9 = .ok (.ifCond .ne 7, 3) := by decide +kernel
theorem dX12_heard_12 : decode cX12_heard 12 = .ok (.iconst 1, 1) := by decide +kernel
theorem dX12_heard_13 : decode cX12_heard 13 = .ok (.goto 8, 3) := by decide +kernel
theorem dX12_heard_16 : decode cX12_heard 16 = .ok (.aload_n 0, 1) := by decide +kernel
theorem dX12_heard_17 : decode cX12_heard 17 = .ok (.iload_n 1, 1) := by decide +kernel
theorem dX12_heard_18 : decode cX12_heard 18 = .ok (.invokevirtual 236, 3) := by decide +kernel
theorem dX12_heard_21 : decode cX12_heard 21 = .ok (.istore_n 3, 1) := by decide +kernel
theorem dX12_heard_22 : decode cX12_heard 22 = .ok (.iload_n 3, 1) := by decide +kernel
theorem dX12_heard_23 : decode cX12_heard 23 = .ok (.ifCond .ne 15, 3) := by decide +kernel
theorem dX12_heard_26 : decode cX12_heard 26 = .ok (.aload_n 0, 1) := by decide +kernel
theorem dX12_heard_27 : decode cX12_heard 27 = .ok (.getfield 28, 3) := by decide +kernel
theorem dX12_heard_30 : decode cX12_heard 30 = .ok (.iload_n 1, 1) := by decide +kernel
theorem dX12_heard_31 : decode cX12_heard 31 = .ok (.iaload, 1) := by decide +kernel
theorem dX12_heard_32 : decode cX12_heard 32 = .ok (.iconst 2, 1) := by decide +kernel
theorem dX12_heard_33 : decode cX12_heard 33 = .ok (.if_icmp .ge 5, 3) := by decide +kernel
theorem dX12_heard_36 : decode cX12_heard 36 = .ok (.iconst 2, 1) := by decide +kernel
theorem dX12_heard_37 : decode cX12_heard 37 = .ok (.istore_n 3, 1) := by decide +kernel
theorem dX12_heard_38 : decode cX12_heard 38 = .ok (.iload_n 3, 1) := by decide +kernel
theorem dX12_heard_39 : decode cX12_heard 39 = .ok (.ifCond .eq 9, 3) := by decide +kernel
theorem dX12_heard_42 : decode cX12_heard 42 = .ok (.aload_n 0, 1) := by decide +kernel
theorem dX12_heard_43 : decode cX12_heard 43 = .ok (.iload_n 3, 1) := by decide +kernel
theorem dX12_heard_44 : decode cX12_heard 44 = .ok (.invokevirtual 121, 3) := by decide +kernel
theorem dX12_heard_47 : decode cX12_heard 47 = .ok (.ireturn, 1) := by decide +kernel
theorem dX12_heard_48 : decode cX12_heard 48 = .ok (.iconst 0, 1) := by decide +kernel
theorem dX12_heard_49 : decode cX12_heard 49 = .ok (.istore 4, 2) := by decide +kernel
theorem dX12_heard_51 : decode cX12_heard 51 = .ok (.iload 4, 2) := by decide +kernel
theorem dX12_heard_53 : decode cX12_heard 53 = .ok (.bipush 41, 2) := by decide +kernel
theorem dX12_heard_55 : decode cX12_heard 55 = .ok (.if_icmp .ge 17, 3) := by decide +kernel
theorem dX12_heard_58 : decode cX12_heard 58 = .ok (.aload_n 0, 1) := by decide +kernel
theorem dX12_heard_59 : decode cX12_heard 59 = .ok (.getfield 49, 3) := by decide +kernel
theorem dX12_heard_62 : decode cX12_heard 62 = .ok (.iload 4, 2) := by decide +kernel
theorem dX12_heard_64 : decode cX12_heard 64 = .ok (.iconst 0, 1) := by decide +kernel
theorem dX12_heard_65 : decode cX12_heard 65 = .ok (.iastore, 1) := by decide +kernel
theorem dX12_heard_66 : decode cX12_heard 66 = .ok (.iinc 4 1, 3) := by decide +kernel
theorem dX12_heard_69 : decode cX12_heard 69 = .ok (.goto (-18), 3) := by decide +kernel
theorem dX12_heard_72 : decode cX12_heard 72 = .ok (.bipush 40, 2) := by decide +kernel
theorem dX12_heard_74 : decode cX12_heard 74 = .ok (.iload_n 1, 1) := by decide +kernel
theorem dX12_heard_75 : decode cX12_heard 75 = .ok (.imul, 1) := by decide +kernel
theorem dX12_heard_76 : decode cX12_heard 76 = .ok (.istore 4, 2) := by decide +kernel
theorem dX12_heard_78 : decode cX12_heard 78 = .ok (.iconst 0, 1) := by decide +kernel
theorem dX12_heard_79 : decode cX12_heard 79 = .ok (.istore 5, 2) := by decide +kernel
theorem dX12_heard_81 : decode cX12_heard 81 = .ok (.iload 5, 2) := by decide +kernel
theorem dX12_heard_83 : decode cX12_heard 83 = .ok (.iconst 1, 1) := by decide +kernel
theorem dX12_heard_84 : decode cX12_heard 84 = .ok (.iadd, 1) := by decide +kernel
theorem dX12_heard_85 : decode cX12_heard 85 = .ok (.aload_n 0, 1) := by decide +kernel
theorem dX12_heard_86 : decode cX12_heard 86 = .ok (.getfield 28, 3) := by decide +kernel
theorem dX12_heard_89 : decode cX12_heard 89 = .ok (.iload_n 1, 1) := by decide +kernel
theorem dX12_heard_90 : decode cX12_heard 90 = .ok (.iaload, 1) := by decide +kernel
theorem dX12_heard_91 : decode cX12_heard 91 = .ok (.if_icmp .ge 74, 3) := by decide +kernel
theorem dX12_heard_94 : decode cX12_heard 94 = .ok (.aload_n 0, 1) := by decide +kernel
theorem dX12_heard_95 : decode cX12_heard 95 = .ok (.getfield 31, 3) := by decide +kernel
theorem dX12_heard_98 : decode cX12_heard 98 = .ok (.iload 4, 2) := by decide +kernel
theorem dX12_heard_100 : decode cX12_heard 100 = .ok (.iload 5, 2) := by decide +kernel
theorem dX12_heard_102 : decode cX12_heard 102 = .ok (.iadd, 1) := by decide +kernel
theorem dX12_heard_103 : decode cX12_heard 103 = .ok (.iaload, 1) := by decide +kernel
theorem dX12_heard_104 : decode cX12_heard 104 = .ok (.i2l, 1) := by decide +kernel
theorem dX12_heard_105 : decode cX12_heard 105 = .ok (.aload_n 0, 1) := by decide +kernel
theorem dX12_heard_106 : decode cX12_heard 106 = .ok (.getfield 31, 3) := by decide +kernel
theorem dX12_heard_109 : decode cX12_heard 109 = .ok (.iload 4, 2) := by decide +kernel
theorem dX12_heard_111 : decode cX12_heard 111 = .ok (.iload 5, 2) := by decide +kernel
theorem dX12_heard_113 : decode cX12_heard 113 = .ok (.iadd, 1) := by decide +kernel
theorem dX12_heard_114 : decode cX12_heard 114 = .ok (.iconst 1, 1) := by decide +kernel
theorem dX12_heard_115 : decode cX12_heard 115 = .ok (.iadd, 1) := by decide +kernel
theorem dX12_heard_116 : decode cX12_heard 116 = .ok (.iaload, 1) := by decide +kernel
theorem dX12_heard_117 : decode cX12_heard 117 = .ok (.i2l, 1) := by decide +kernel
theorem dX12_heard_118 : decode cX12_heard 118 = .ok (.lsub, 1) := by decide +kernel
theorem dX12_heard_119 : decode cX12_heard 119 = .ok (.lstore 6, 2) := by decide +kernel
theorem dX12_heard_121 : decode cX12_heard 121 = .ok (.lload 6, 2) := by decide +kernel
theorem dX12_heard_123 : decode cX12_heard 123 = .ok (.lconst 0, 1) := by decide +kernel
theorem dX12_heard_124 : decode cX12_heard 124 = .ok (.lcmp, 1) := by decide +kernel
theorem dX12_heard_125 : decode cX12_heard 125 = .ok (.ifCond .ge 9, 3) := by decide +kernel
theorem dX12_heard_128 : decode cX12_heard 128 = .ok (.lload 6, 2) := by decide +kernel
theorem dX12_heard_130 : decode cX12_heard 130 = .ok (.lneg, 1) := by decide +kernel
theorem dX12_heard_131 : decode cX12_heard 131 = .ok (.goto 5, 3) := by decide +kernel
theorem dX12_heard_134 : decode cX12_heard 134 = .ok (.lload 6, 2) := by decide +kernel
theorem dX12_heard_136 : decode cX12_heard 136 = .ok (.lstore 6, 2) := by decide +kernel
theorem dX12_heard_138 : decode cX12_heard 138 = .ok (.lload 6, 2) := by decide +kernel
theorem dX12_heard_140 : decode cX12_heard 140 = .ok (.ldc2_w 250, 3) := by decide +kernel
theorem dX12_heard_143 : decode cX12_heard 143 = .ok (.lcmp, 1) := by decide +kernel
theorem dX12_heard_144 : decode cX12_heard 144 = .ok (.ifCond .ge 15, 3) := by decide +kernel
theorem dX12_heard_147 : decode cX12_heard 147 = .ok (.aload_n 0, 1) := by decide +kernel
theorem dX12_heard_148 : decode cX12_heard 148 = .ok (.getfield 49, 3) := by decide +kernel
theorem dX12_heard_151 : decode cX12_heard 151 = .ok (.lload 6, 2) := by decide +kernel
theorem dX12_heard_153 : decode cX12_heard 153 = .ok (.l2i, 1) := by decide +kernel
theorem dX12_heard_154 : decode cX12_heard 154 = .ok (.dup2, 1) := by decide +kernel
