theorem dX10_asks_57 : decode cX10_asks 57 = .ok (.aload_n 0, 1) := by decide +kernel
theorem dX10_asks_58 : decode cX10_asks 58 = .ok (.iload_n 2, 1) := by decide +kernel
theorem dX10_asks_59 : decode cX10_asks 59 = .ok (.iload_n 1, 1) := by decide +kernel
theorem dX10_asks_60 : decode cX10_asks 60 = .ok (.iload 4, 2) := by decide +kernel
theorem dX10_asks_62 : decode cX10_asks 62 = .ok (.invokevirtual 260, 3) := by decide +kernel
theorem dX10_asks_65 : decode cX10_asks 65 = .ok (.ifCond .ne 7, 3) := by decide +kernel
theorem dX10_asks_68 : decode cX10_asks 68 = .ok (.iconst 3, 1) := by decide +kernel
theorem dX10_asks_69 : decode cX10_asks 69 = .ok (.goto 17, 3) := by decide +kernel
theorem dX10_asks_72 : decode cX10_asks 72 = .ok (.aload_n 0, 1) := by decide +kernel
theorem dX10_asks_73 : decode cX10_asks 73 = .ok (.getfield 19, 3) := by decide +kernel
theorem dX10_asks_76 : decode cX10_asks 76 = .ok (.iload_n 2, 1) := by decide +kernel
theorem dX10_asks_77 : decode cX10_asks 77 = .ok (.baload, 1) := by decide +kernel
theorem dX10_asks_78 : decode cX10_asks 78 = .ok (.ifCond .ne 7, 3) := by decide +kernel
theorem dX10_asks_81 : decode cX10_asks 81 = .ok (.iconst 4, 1) := by decide +kernel
theorem dX10_asks_82 : decode cX10_asks 82 = .ok (.goto 4, 3) := by decide +kernel
theorem dX10_asks_85 : decode cX10_asks 85 = .ok (.iconst 0, 1) := by decide +kernel
theorem dX10_asks_86 : decode cX10_asks 86 = .ok (.istore 5, 2) := by decide +kernel
theorem dX10_asks_88 : decode cX10_asks 88 = .ok (.aload_n 0, 1) := by decide +kernel
theorem dX10_asks_89 : decode cX10_asks 89 = .ok (.getfield 199, 3) := by decide +kernel
theorem dX10_asks_92 : decode cX10_asks 92 = .ok (.sipush 300, 3) := by decide +kernel
theorem dX10_asks_95 : decode cX10_asks 95 = .ok (.if_icmp .ge 34, 3) := by decide +kernel
theorem dX10_asks_98 : decode cX10_asks 98 = .ok (.aload_n 0, 1) := by decide +kernel
theorem dX10_asks_99 : decode cX10_asks 99 = .ok (.getfield 126, 3) := by decide +kernel
theorem dX10_asks_102 : decode cX10_asks 102 = .ok (.aload_n 0, 1) := by decide +kernel
theorem dX10_asks_103 : decode cX10_asks 103 = .ok (.getfield 199, 3) := by decide +kernel
theorem dX10_asks_106 : decode cX10_asks 106 = .ok (.iload_n 1, 1) := by decide +kernel
theorem dX10_asks_107 : decode cX10_asks 107 = .ok (.iastore, 1) := by decide +kernel
theorem dX10_asks_108 : decode cX10_asks 108 = .ok (.aload_n 0, 1) := by decide +kernel
theorem dX10_asks_109 : decode cX10_asks 109 = .ok (.getfield 129, 3) := by decide +kernel
theorem dX10_asks_112 : decode cX10_asks 112 = .ok (.aload_n 0, 1) := by decide +kernel
theorem dX10_asks_113 : decode cX10_asks 113 = .ok (.getfield 199, 3) := by decide +kernel
theorem dX10_asks_116 : decode cX10_asks 116 = .ok (.iload_n 2, 1) := by decide +kernel
theorem dX10_asks_117 : decode cX10_asks 117 = .ok (.iastore, 1) := by decide +kernel
theorem dX10_asks_118 : decode cX10_asks 118 = .ok (.aload_n 0, 1) := by decide +kernel
theorem dX10_asks_119 : decode cX10_asks 119 = .ok (.getfield 132, 3) := by decide +kernel
theorem dX10_asks_122 : decode cX10_asks 122 = .ok (.aload_n 0, 1) := by decide +kernel
theorem dX10_asks_123 : decode cX10_asks 123 = .ok (.getfield 199, 3) := by decide +kernel
theorem dX10_asks_126 : decode cX10_asks 126 = .ok (.iload 5, 2) := by decide +kernel
theorem dX10_asks_128 : decode cX10_asks 128 = .ok (.iastore, 1) := by decide +kernel
theorem dX10_asks_129 : decode cX10_asks 129 = .ok (.aload_n 0, 1) := by decide +kernel
theorem dX10_asks_130 : decode cX10_asks 130 = .ok (.dup, 1) := by decide +kernel
theorem dX10_asks_131 : decode cX10_asks 131 = .ok (.getfield 199, 3) := by decide +kernel
theorem dX10_asks_134 : decode cX10_asks 134 = .ok (.iconst 1, 1) := by decide +kernel
theorem dX10_asks_135 : decode cX10_asks 135 = .ok (.iadd, 1) := by decide +kernel
theorem dX10_asks_136 : decode cX10_asks 136 = .ok (.putfield 199, 3) := by decide +kernel
theorem dX10_asks_139 : decode cX10_asks 139 = .ok (.iload 5, 2) := by decide +kernel
theorem dX10_asks_141 : decode cX10_asks 141 = .ok (.iconst 3, 1) := by decide +kernel
theorem dX10_asks_142 : decode cX10_asks 142 = .ok (.if_icmp .ne 26, 3) := by decide +kernel
theorem dX10_asks_145 : decode cX10_asks 145 = .ok (.aload_n 0, 1) := by decide +kernel
theorem dX10_asks_146 : decode cX10_asks 146 = .ok (.getfield 56, 3) := by decide +kernel
theorem dX10_asks_149 : decode cX10_asks 149 = .ok (.iload_n 1, 1) := by decide +kernel
theorem dX10_asks_150 : decode cX10_asks 150 = .ok (.baload, 1) := by decide +kernel
theorem dX10_asks_151 : decode cX10_asks 151 = .ok (.ifCond .eq 17, 3) := by decide +kernel
theorem dX10_asks_154 : decode cX10_asks 154 = .ok (.aload_n 0, 1) := by decide +kernel
theorem dX10_asks_155 : decode cX10_asks 155 = .ok (.getfield 26, 3) := by decide +kernel
theorem dX10_asks_158 : decode cX10_asks 158 = .ok (.iload_n 2, 1) := by decide +kernel
theorem dX10_asks_159 : decode cX10_asks 159 = .ok (.iaload, 1) := by decide +kernel
theorem dX10_asks_160 : decode cX10_asks 160 = .ok (.ifCond .ne 8, 3) := by decide +kernel
theorem dX10_asks_163 : decode cX10_asks 163 = .ok (.aload_n 0, 1) := by decide +kernel
theorem dX10_asks_164 : decode cX10_asks 164 = .ok (.iconst 1, 1) := by decide +kernel
theorem dX10_asks_165 : decode cX10_asks 165 = .ok (.putfield 235, 3) := by decide +kernel
theorem dX10_asks_168 : decode cX10_asks 168 = .ok (.iload 5, 2) := by decide +kernel
theorem dX10_asks_170 : decode cX10_asks 170 = .ok (.iconst 4, 1) := by decide +kernel
theorem dX10_asks_171 : decode cX10_asks 171 = .ok (.if_icmp .ne 17, 3) := by decide +kernel
theorem dX10_asks_174 : decode cX10_asks 174 = .ok (.aload_n 0, 1) := by decide +kernel
theorem dX10_asks_175 : decode cX10_asks 175 = .ok (.iload_n 2, 1) := by decide +kernel
theorem dX10_asks_176 : decode cX10_asks 176 = .ok (.invokevirtual 250, 3) := by decide +kernel
theorem dX10_asks_179 : decode cX10_asks 179 = .ok (.aload_n 0, 1) := by decide +kernel
theorem dX10_asks_180 : decode cX10_asks 180 = .ok (.iload_n 2, 1) := by decide +kernel
theorem dX10_asks_181 : decode cX10_asks 181 = .ok (.aload_n 0, 1) := by decide +kernel
theorem dX10_asks_182 : decode cX10_asks 182 = .ok (.getfield 160, 3) := by decide +kernel
theorem dX10_asks_185 : decode cX10_asks 185 = .ok (.invokevirtual 228, 3) := by decide +kernel
theorem dX10_asks_188 : decode cX10_asks 188 = .ok (.iload 5, 2) := by decide +kernel
theorem dX10_asks_190 : decode cX10_asks 190 = .ok (.ireturn, 1) := by decide +kernel
theorem dX10_aLearner_0 : decode cX10_aLearner 0 = .ok (.iconst 0, 1) := by decide +kernel
theorem dX10_aLearner_1 : decode cX10_aLearner 1 = .ok (.istore_n 3, 1) := by decide +kernel
theorem dX10_aLearner_2 : decode cX10_aLearner 2 = .ok (.iload_n 3, 1) := by decide +kernel
theorem dX10_aLearner_3 : decode cX10_aLearner 3 = .ok (.aload_n 0, 1) := by decide +kernel
theorem dX10_aLearner_4 : decode cX10_aLearner 4 = .ok (.getfield 160, 3) := by decide +kernel
theorem dX10_aLearner_7 : decode cX10_aLearner 7 = .ok (.if_icmp .ge 74, 3) := by decide +kernel
theorem dX10_aLearner_10 : decode cX10_aLearner 10 = .ok (.aload_n 0, 1) := by decide +kernel
theorem dX10_aLearner_11 : decode cX10_aLearner 11 = .ok (.getfield 53, 3) := by decide +kernel
theorem dX10_aLearner_14 : decode cX10_aLearner 14 = .ok (.iload_n 3, 1) := by decide +kernel
theorem dX10_aLearner_15 : decode cX10_aLearner 15 = .ok (.iaload, 1) := by decide +kernel
theorem dX10_aLearner_16 : decode cX10_aLearner 16 = .ok (.istore 4, 2) := by decide +kernel
theorem dX10_aLearner_18 : decode cX10_aLearner 18 = .ok (.aload_n 0, 1) := by decide +kernel
theorem dX10_aLearner_19 : decode cX10_aLearner 19 = .ok (.getfield 7, 3) := by decide +kernel
theorem dX10_aLearner_22 : decode cX10_aLearner 22 = .ok (.iload 4, 2) := by decide +kernel
theorem dX10_aLearner_24 : decode cX10_aLearner 24 = .ok (.iaload, 1) := by decide +kernel
theorem dX10_aLearner_25 : decode cX10_aLearner 25 = .ok (.iconst 2, 1) := by decide +kernel
theorem dX10_aLearner_26 : decode cX10_aLearner 26 = .ok (.if_icmp .ne 49, 3) := by decide +kernel
theorem dX10_aLearner_29 : decode cX10_aLearner 29 = .ok (.aload_n 0, 1) := by decide +kernel
theorem dX10_aLearner_30 : decode cX10_aLearner 30 = .ok (.getfield 23, 3) := by decide +kernel
theorem dX10_aLearner_33 : decode cX10_aLearner 33 = .ok (.sipush 400, 3) := by decide +kernel
theorem dX10_aLearner_36 : decode cX10_aLearner 36 = .ok (.iload 4, 2) := by decide +kernel
theorem dX10_aLearner_38 : decode cX10_aLearner 38 = .ok (.imul, 1) := by decide +kernel
theorem dX10_aLearner_39 : decode cX10_aLearner 39 = .ok (.iload_n 2, 1) := by decide +kernel
theorem dX10_aLearner_40 : decode cX10_aLearner 40 = .ok (.bipush 24, 2) := by decide +kernel
theorem dX10_aLearner_42 : decode cX10_aLearner 42 = .ok (.idiv, 1) := by decide +kernel
theorem dX10_aLearner_43 : decode cX10_aLearner 43 = .ok (.iadd, 1) := by decide +kernel
theorem dX10_aLearner_44 : decode cX10_aLearner 44 = .ok (.baload, 1) := by decide +kernel
theorem dX10_aLearner_45 : decode cX10_aLearner 45 = .ok (.ifCond .ne 30, 3) := by decide +kernel
theorem dX10_aLearner_48 : decode cX10_aLearner 48 = .ok (.aload_n 0, 1) := by decide +kernel
theorem dX10_aLearner_49 : decode cX10_aLearner 49 = .ok (.iload 4, 2) := by decide +kernel
theorem dX10_aLearner_51 : decode cX10_aLearner 51 = .ok (.iload_n 1, 1) := by decide +kernel
theorem dX10_aLearner_52 : decode cX10_aLearner 52 = .ok (.aload_n 0, 1) := by decide +kernel
theorem dX10_aLearner_53 : decode cX10_aLearner 53 = .ok (.getfield 205, 3) := by decide +kernel
theorem dX10_aLearner_56 : decode cX10_aLearner 56 = .ok (.invokevirtual 260, 3) := by decide +kernel
theorem dX10_aLearner_59 : decode cX10_aLearner 59 = .ok (.ifCond .eq 16, 3) := by decide +kernel
theorem dX10_aLearner_62 : decode cX10_aLearner 62 = .ok (.aload_n 0, 1) := by decide +kernel
theorem dX10_aLearner_63 : decode cX10_aLearner 63 = .ok (.getfield 19, 3) := by decide +kernel
theorem dX10_aLearner_66 : decode cX10_aLearner 66 = .ok (.iload 4, 2) := by decide +kernel
theorem dX10_aLearner_68 : decode cX10_aLearner 68 = .ok (.baload, 1) := by decide +kernel
theorem dX10_aLearner_69 : decode cX10_aLearner 69 = .ok (.ifCond .eq 6, 3) := by decide +kernel
theorem dX10_aLearner_72 : decode cX10_aLearner 72 = .ok (.iload 4, 2) := by decide +kernel
theorem dX10_aLearner_74 : decode cX10_aLearner 74 = .ok (.ireturn, 1) := by decide +kernel
theorem dX10_aLearner_75 : decode cX10_aLearner 75 = .ok (.iinc 3 1, 3) := by decide +kernel
theorem dX10_aLearner_78 : decode cX10_aLearner 78 = .ok (.goto (-76), 3) := by decide +kernel
theorem dX10_aLearner_81 : decode cX10_aLearner 81 = .ok (.iconst (-1), 1) := by decide +kernel
theorem dX10_aLearner_82 : decode cX10_aLearner 82 = .ok (.ireturn, 1) := by decide +kernel
theorem dX10_goBack_0 : decode cX10_goBack 0 = .ok (.iconst 0, 1) := by decide +kernel
theorem dX10_goBack_1 : decode cX10_goBack 1 = .ok (.istore_n 2, 1) := by decide +kernel
theorem dX10_goBack_2 : decode cX10_goBack 2 = .ok (.iload_n 2, 1) := by decide +kernel
theorem dX10_goBack_3 : decode cX10_goBack 3 = .ok (.iload_n 1, 1) := by decide +kernel
theorem dX10_goBack_4 : decode cX10_goBack 4 = .ok (.if_icmp .ge 76, 3) := by decide +kernel
theorem dX10_goBack_7 : decode cX10_goBack 7 = .ok (.iconst (-1), 1) := by decide +kernel
theorem dX10_goBack_8 : decode cX10_goBack 8 = .ok (.istore_n 3, 1) := by decide +kernel
theorem dX10_goBack_9 : decode cX10_goBack 9 = .ok (.iconst 0, 1) := by decide +kernel
theorem dX10_goBack_10 : decode cX10_goBack 10 = .ok (.istore 4, 2) := by decide +kernel
theorem dX10_goBack_12 : decode cX10_goBack 12 = .ok (.iload 4, 2) := by decide +kernel
theorem dX10_goBack_14 : decode cX10_goBack 14 = .ok (.aload_n 0, 1) := by decide +kernel
theorem dX10_goBack_15 : decode cX10_goBack 15 = .ok (.getfield 150, 3) := by decide +kernel
theorem dX10_goBack_18 : decode cX10_goBack 18 = .ok (.if_icmp .ge 44, 3) := by decide +kernel
theorem dX10_goBack_21 : decode cX10_goBack 21 = .ok (.aload_n 0, 1) := by decide +kernel
theorem dX10_goBack_22 : decode cX10_goBack 22 = .ok (.getfield 26, 3) := by decide +kernel
theorem dX10_goBack_25 : decode cX10_goBack 25 = .ok (.iload 4, 2) := by decide +kernel
theorem dX10_goBack_27 : decode cX10_goBack 27 = .ok (.iaload, 1) := by decide +kernel
theorem dX10_goBack_28 : decode cX10_goBack 28 = .ok (.iconst 1, 1) := by decide +kernel
theorem dX10_goBack_29 : decode cX10_goBack 29 = .ok (.if_icmp .ne 27, 3) := by decide +kernel
theorem dX10_goBack_32 : decode cX10_goBack 32 = .ok (.iload_n 3, 1) := by decide +kernel
theorem dX10_goBack_33 : decode cX10_goBack 33 = .ok (.iconst (-1), 1) := by decide +kernel
theorem dX10_goBack_34 : decode cX10_goBack 34 = .ok (.if_icmp .eq 19, 3) := by decide +kernel
theorem dX10_goBack_37 : decode cX10_goBack 37 = .ok (.aload_n 0, 1) := by decide +kernel
theorem dX10_goBack_38 : decode cX10_goBack 38 = .ok (.getfield 29, 3) := by decide +kernel
theorem dX10_goBack_41 : decode cX10_goBack 41 = .ok (.iload 4, 2) := by decide +kernel
theorem dX10_goBack_43 : decode cX10_goBack 43 = .ok (.iaload, 1) := by decide +kernel
theorem dX10_goBack_44 : decode cX10_goBack 44 = .ok (.aload_n 0, 1) := by decide +kernel
theorem dX10_goBack_45 : decode cX10_goBack 45 = .ok (.getfield 29, 3) := by decide +kernel
theorem dX10_goBack_48 : decode cX10_goBack 48 = .ok (.iload_n 3, 1) := by decide +kernel
theorem dX10_goBack_49 : decode cX10_goBack 49 = .ok (.iaload, 1) := by decide +kernel
theorem dX10_goBack_50 : decode cX10_goBack 50 = .ok (.if_icmp .ge 6, 3) := by decide +kernel
theorem dX10_goBack_53 : decode cX10_goBack 53 = .ok (.iload 4, 2) := by decide +kernel
theorem dX10_goBack_55 : decode cX10_goBack 55 = .ok (.istore_n 3, 1) := by decide +kernel
theorem dX10_goBack_56 : decode cX10_goBack 56 = .ok (.iinc 4 1, 3) := by decide +kernel
theorem dX10_goBack_59 : decode cX10_goBack 59 = .ok (.goto (-47), 3) := by decide +kernel
theorem dX10_goBack_62 : decode cX10_goBack 62 = .ok (.iload_n 3, 1) := by decide +kernel
theorem dX10_goBack_63 : decode cX10_goBack 63 = .ok (.iconst (-1), 1) := by decide +kernel
theorem dX10_goBack_64 : decode cX10_goBack 64 = .ok (.if_icmp .eq 10, 3) := by decide +kernel
theorem dX10_goBack_67 : decode cX10_goBack 67 = .ok (.aload_n 0, 1) := by decide +kernel
theorem dX10_goBack_68 : decode cX10_goBack 68 = .ok (.getfield 26, 3) := by decide +kernel
theorem dX10_goBack_71 : decode cX10_goBack 71 = .ok (.iload_n 3, 1) := by decide +kernel
theorem dX10_goBack_72 : decode cX10_goBack 72 = .ok (.iconst 0, 1) := by decide +kernel
theorem dX10_goBack_73 : decode cX10_goBack 73 = .ok (.iastore, 1) := by decide +kernel
theorem dX10_goBack_74 : decode cX10_goBack 74 = .ok (.iinc 2 1, 3) := by decide +kernel
theorem dX10_goBack_77 : decode cX10_goBack 77 = .ok (.goto (-75), 3) := by decide +kernel
theorem dX10_goBack_80 : decode cX10_goBack 80 = .ok (.return_, 1) := by decide +kernel
theorem dX10_ends_0 : decode cX10_ends 0 = .ok (.aload_n 0, 1) := by decide +kernel
theorem dX10_ends_1 : decode cX10_ends 1 = .ok (.getfield 74, 3) := by decide +kernel
theorem dX10_ends_4 : decode cX10_ends 4 = .ok (.iload_n 1, 1) := by decide +kernel
theorem dX10_ends_5 : decode cX10_ends 5 = .ok (.iconst 2, 1) := by decide +kernel
theorem dX10_ends_6 : decode cX10_ends 6 = .ok (.iastore, 1) := by decide +kernel
theorem dX10_ends_7 : decode cX10_ends 7 = .ok (.aload_n 0, 1) := by decide +kernel
theorem dX10_ends_8 : decode cX10_ends 8 = .ok (.aload_n 0, 1) := by decide +kernel
theorem dX10_ends_9 : decode cX10_ends 9 = .ok (.getfield 80, 3) := by decide +kernel
theorem dX10_ends_12 : decode cX10_ends 12 = .ok (.iload_n 1, 1) := by decide +kernel
theorem dX10_ends_13 : decode cX10_ends 13 = .ok (.iaload, 1) := by decide +kernel
theorem dX10_ends_14 : decode cX10_ends 14 = .ok (.iload_n 1, 1) := by decide +kernel
theorem dX10_ends_15 : decode cX10_ends 15 = .ok (.iconst 1, 1) := by decide +kernel
theorem dX10_ends_16 : decode cX10_ends 16 = .ok (.invokevirtual 263, 3) := by decide +kernel
theorem dX10_ends_19 : decode cX10_ends 19 = .ok (.aload_n 0, 1) := by decide +kernel
theorem dX10_ends_20 : decode cX10_ends 20 = .ok (.aload_n 0, 1) := by decide +kernel
theorem dX10_ends_21 : decode cX10_ends 21 = .ok (.getfield 83, 3) := by decide +kernel
theorem dX10_ends_24 : decode cX10_ends 24 = .ok (.iload_n 1, 1) := by decide +kernel
theorem dX10_ends_25 : decode cX10_ends 25 = .ok (.iaload, 1) := by decide +kernel
theorem dX10_ends_26 : decode cX10_ends 26 = .ok (.iload_n 1, 1) := by decide +kernel
theorem dX10_ends_27 : decode cX10_ends 27 = .ok (.iconst 1, 1) := by decide +kernel
theorem dX10_ends_28 : decode cX10_ends 28 = .ok (.invokevirtual 263, 3) := by decide +kernel
theorem dX10_ends_31 : decode cX10_ends 31 = .ok (.aload_n 0, 1) := by decide +kernel
theorem dX10_ends_32 : decode cX10_ends 32 = .ok (.aload_n 0, 1) := by decide +kernel
theorem dX10_ends_33 : decode cX10_ends 33 = .ok (.getfield 86, 3) := by decide +kernel
theorem dX10_ends_36 : decode cX10_ends 36 = .ok (.iload_n 1, 1) := by decide +kernel
theorem dX10_ends_37 : decode cX10_ends 37 = .ok (.iaload, 1) := by decide +kernel
theorem dX10_ends_38 : decode cX10_ends 38 = .ok (.iload_n 1, 1) := by decide +kernel
theorem dX10_ends_39 : decode cX10_ends 39 = .ok (.iconst 0, 1) := by decide +kernel
theorem dX10_ends_40 : decode cX10_ends 40 = .ok (.invokevirtual 263, 3) := by decide +kernel
theorem dX10_ends_43 : decode cX10_ends 43 = .ok (.return_, 1) := by decide +kernel
theorem dX10_through_0 : decode cX10_through 0 = .ok (.iload_n 1, 1) := by decide +kernel
theorem dX10_through_1 : decode cX10_through 1 = .ok (.iconst (-1), 1) := by decide +kernel
theorem dX10_through_2 : decode cX10_through 2 = .ok (.if_icmp .ne 4, 3) := by decide +kernel
theorem dX10_through_5 : decode cX10_through 5 = .ok (.return_, 1) := by decide +kernel
theorem dX10_through_6 : decode cX10_through 6 = .ok (.aload_n 0, 1) := by decide +kernel
theorem dX10_through_7 : decode cX10_through 7 = .ok (.getfield 77, 3) := by decide +kernel
theorem dX10_through_10 : decode cX10_through 10 = .ok (.iload_n 2, 1) := by decide +kernel
theorem dX10_through_11 : decode cX10_through 11 = .ok (.iaload, 1) := by decide +kernel
theorem dX10_through_12 : decode cX10_through 12 = .ok (.aload_n 0, 1) := by decide +kernel
theorem dX10_through_13 : decode cX10_through 13 = .ok (.iload_n 2, 1) := by decide +kernel
theorem dX10_through_14 : decode cX10_through 14 = .ok (.invokevirtual 222, 3) := by decide +kernel
theorem dX10_through_17 : decode cX10_through 17 = .ok (.iadd, 1) := by decide +kernel
theorem dX10_through_18 : decode cX10_through 18 = .ok (.istore 4, 2) := by decide +kernel
theorem dX10_through_20 : decode cX10_through 20 = .ok (.iconst 0, 1) := by decide +kernel
theorem dX10_through_21 : decode cX10_through 21 = .ok (.istore 5, 2) := by decide +kernel
theorem dX10_through_23 : decode cX10_through 23 = .ok (.aload_n 0, 1) := by decide +kernel
theorem dX10_through_24 : decode cX10_through 24 = .ok (.getfield 77, 3) := by decide +kernel
theorem dX10_through_27 : decode cX10_through 27 = .ok (.iload_n 2, 1) := by decide +kernel
theorem dX10_through_28 : decode cX10_through 28 = .ok (.iaload, 1) := by decide +kernel
theorem dX10_through_29 : decode cX10_through 29 = .ok (.istore 6, 2) := by decide +kernel
theorem dX10_through_31 : decode cX10_through 31 = .ok (.iload 6, 2) := by decide +kernel
theorem dX10_through_33 : decode cX10_through 33 = .ok (.iload 4, 2) := by decide +kernel
theorem dX10_through_35 : decode cX10_through 35 = .ok (.if_icmp .ge 29, 3) := by decide +kernel
theorem dX10_through_38 : decode cX10_through 38 = .ok (.iload 5, 2) := by decide +kernel
theorem dX10_through_40 : decode cX10_through 40 = .ok (.ifCond .ne 11, 3) := by decide +kernel
theorem dX10_through_43 : decode cX10_through 43 = .ok (.iload 6, 2) := by decide +kernel
theorem dX10_through_45 : decode cX10_through 45 = .ok (.invokestatic 267, 3) := by decide +kernel
theorem dX10_through_48 : decode cX10_through 48 = .ok (.ifCond .eq 7, 3) := by decide +kernel
theorem dX10_through_51 : decode cX10_through 51 = .ok (.iconst 1, 1) := by decide +kernel
theorem dX10_through_52 : decode cX10_through 52 = .ok (.goto 4, 3) := by decide +kernel
theorem dX10_through_55 : decode cX10_through 55 = .ok (.iconst 0, 1) := by decide +kernel
theorem dX10_through_56 : decode cX10_through 56 = .ok (.istore 5, 2) := by decide +kernel
theorem dX10_through_58 : decode cX10_through 58 = .ok (.iinc 6 1, 3) := by decide +kernel
theorem dX10_through_61 : decode cX10_through 61 = .ok (.goto (-30), 3) := by decide +kernel
theorem dX10_through_64 : decode cX10_through 64 = .ok (.aload_n 0, 1) := by decide +kernel
theorem dX10_through_65 : decode cX10_through 65 = .ok (.getfield 47, 3) := by decide +kernel
theorem dX10_through_68 : decode cX10_through 68 = .ok (.iload_n 1, 1) := by decide +kernel
theorem dX10_through_69 : decode cX10_through 69 = .ok (.iaload, 1) := by decide +kernel
theorem dX10_through_70 : decode cX10_through 70 = .ok (.iconst (-1), 1) := by decide +kernel
theorem dX10_through_71 : decode cX10_through 71 = .ok (.if_icmp .eq 21, 3) := by decide +kernel
theorem dX10_through_74 : decode cX10_through 74 = .ok (.iload 4, 2) := by decide +kernel
theorem dX10_through_76 : decode cX10_through 76 = .ok (.aload_n 0, 1) := by decide +kernel
theorem dX10_through_77 : decode cX10_through 77 = .ok (.getfield 47, 3) := by decide +kernel
theorem dX10_through_80 : decode cX10_through 80 = .ok (.iload_n 1, 1) := by decide +kernel
theorem dX10_through_81 : decode cX10_through 81 = .ok (.iaload, 1) := by decide +kernel
theorem dX10_through_82 : decode cX10_through 82 = .ok (.isub, 1) := by decide +kernel
theorem dX10_through_83 : decode cX10_through 83 = .ok (.bipush 24, 2) := by decide +kernel
theorem dX10_through_85 : decode cX10_through 85 = .ok (.if_icmp .ge 7, 3) := by decide +kernel
theorem dX10_through_88 : decode cX10_through 88 = .ok (.iconst 1, 1) := by decide +kernel
theorem dX10_through_89 : decode cX10_through 89 = .ok (.goto 4, 3) := by decide +kernel
theorem dX10_through_92 : decode cX10_through 92 = .ok (.iconst 0, 1) := by decide +kernel
theorem dX10_through_93 : decode cX10_through 93 = .ok (.istore 6, 2) := by decide +kernel
theorem dX10_through_95 : decode cX10_through 95 = .ok (.aload_n 0, 1) := by decide +kernel
theorem dX10_through_96 : decode cX10_through 96 = .ok (.getfield 32, 3) := by decide +kernel
theorem dX10_through_99 : decode cX10_through 99 = .ok (.iload_n 1, 1) := by decide +kernel
theorem dX10_through_100 : decode cX10_through 100 = .ok (.iload 4, 2) := by decide +kernel
theorem dX10_through_102 : decode cX10_through 102 = .ok (.aload_n 0, 1) := by decide +kernel
theorem dX10_through_103 : decode cX10_through 103 = .ok (.getfield 117, 3) := by decide +kernel
theorem dX10_through_106 : decode cX10_through 106 = .ok (.iadd, 1) := by decide +kernel
theorem dX10_through_107 : decode cX10_through 107 = .ok (.iload 5, 2) := by decide +kernel
theorem dX10_through_109 : decode cX10_through 109 = .ok (.ifCond .eq 10, 3) := by decide +kernel
theorem dX10_through_112 : decode cX10_through 112 = .ok (.aload_n 0, 1) := by decide +kernel
theorem dX10_through_113 : decode cX10_through 113 = .ok (.getfield 120, 3) := by decide +kernel
theorem dX10_through_116 : decode cX10_through 116 = .ok (.goto 4, 3) := by decide +kernel
theorem dX10_through_119 : decode cX10_through 119 = .ok (.iconst 0, 1) := by decide +kernel
theorem dX10_through_120 : decode cX10_through 120 = .ok (.iadd, 1) := by decide +kernel
theorem dX10_through_121 : decode cX10_through 121 = .ok (.iload 6, 2) := by decide +kernel
theorem dX10_through_123 : decode cX10_through 123 = .ok (.ifCond .eq 10, 3) := by decide +kernel
theorem dX10_through_126 : decode cX10_through 126 = .ok (.aload_n 0, 1) := by decide +kernel
theorem dX10_through_127 : decode cX10_through 127 = .ok (.getfield 123, 3) := by decide +kernel
theorem dX10_through_130 : decode cX10_through 130 = .ok (.goto 4, 3) := by decide +kernel
theorem dX10_through_133 : decode cX10_through 133 = .ok (.iconst 0, 1) := by decide +kernel
theorem dX10_through_134 : decode cX10_through 134 = .ok (.iadd, 1) := by decide +kernel
theorem dX10_through_135 : decode cX10_through 135 = .ok (.iastore, 1) := by decide +kernel
theorem dX10_through_136 : decode cX10_through 136 = .ok (.aload_n 0, 1) := by decide +kernel
theorem dX10_through_137 : decode cX10_through 137 = .ok (.getfield 47, 3) := by decide +kernel
theorem dX10_through_140 : decode cX10_through 140 = .ok (.iload_n 1, 1) := by decide +kernel
theorem dX10_through_141 : decode cX10_through 141 = .ok (.iload 4, 2) := by decide +kernel
theorem dX10_through_143 : decode cX10_through 143 = .ok (.iastore, 1) := by decide +kernel
theorem dX10_through_144 : decode cX10_through 144 = .ok (.aload_n 0, 1) := by decide +kernel
theorem dX10_through_145 : decode cX10_through 145 = .ok (.getfield 41, 3) := by decide +kernel
theorem dX10_through_148 : decode cX10_through 148 = .ok (.iload_n 1, 1) := by decide +kernel
theorem dX10_through_149 : decode cX10_through 149 = .ok (.iconst (-1), 1) := by decide +kernel
theorem dX10_through_150 : decode cX10_through 150 = .ok (.iastore, 1) := by decide +kernel
theorem dX10_through_151 : decode cX10_through 151 = .ok (.iload_n 3, 1) := by decide +kernel
theorem dX10_through_152 : decode cX10_through 152 = .ok (.ifCond .eq 27, 3) := by decide +kernel
theorem dX10_through_155 : decode cX10_through 155 = .ok (.aload_n 0, 1) := by decide +kernel
theorem dX10_through_156 : decode cX10_through 156 = .ok (.getfield 35, 3) := by decide +kernel
theorem dX10_through_159 : decode cX10_through 159 = .ok (.iload_n 1, 1) := by decide +kernel
theorem dX10_through_160 : decode cX10_through 160 = .ok (.dup2, 1) := by decide +kernel
theorem dX10_through_161 : decode cX10_through 161 = .ok (.iaload, 1) := by decide +kernel
theorem dX10_through_162 : decode cX10_through 162 = .ok (.iconst 1, 1) := by decide +kernel
theorem dX10_through_163 : decode cX10_through 163 = .ok (.iadd, 1) := by decide +kernel
theorem dX10_through_164 : decode cX10_through 164 = .ok (.iastore, 1) := by decide +kernel
theorem dX10_through_165 : decode cX10_through 165 = .ok (.aload_n 0, 1) := by decide +kernel
theorem dX10_through_166 : decode cX10_through 166 = .ok (.getfield 38, 3) := by decide +kernel
theorem dX10_through_169 : decode cX10_through 169 = .ok (.iload_n 1, 1) := by decide +kernel
theorem dX10_through_170 : decode cX10_through 170 = .ok (.dup2, 1) := by decide +kernel
theorem dX10_through_171 : decode cX10_through 171 = .ok (.iaload, 1) := by decide +kernel
theorem dX10_through_172 : decode cX10_through 172 = .ok (.aload_n 0, 1) := by decide +kernel
theorem dX10_through_173 : decode cX10_through 173 = .ok (.iload_n 2, 1) := by decide +kernel
theorem dX10_through_174 : decode cX10_through 174 = .ok (.invokevirtual 222, 3) := by decide +kernel
theorem dX10_through_177 : decode cX10_through 177 = .ok (.iadd, 1) := by decide +kernel
theorem dX10_through_178 : decode cX10_through 178 = .ok (.iastore, 1) := by decide +kernel
theorem dX10_through_179 : decode cX10_through 179 = .ok (.aload_n 0, 1) := by decide +kernel
theorem dX10_through_180 : decode cX10_through 180 = .ok (.getfield 26, 3) := by decide +kernel
theorem dX10_through_183 : decode cX10_through 183 = .ok (.iload_n 1, 1) := by decide +kernel
theorem dX10_through_184 : decode cX10_through 184 = .ok (.aload_n 0, 1) := by decide +kernel
theorem dX10_through_185 : decode cX10_through 185 = .ok (.getfield 56, 3) := by decide +kernel
theorem dX10_through_188 : decode cX10_through 188 = .ok (.iload_n 2, 1) := by decide +kernel
theorem dX10_through_189 : decode cX10_through 189 = .ok (.baload, 1) := by decide +kernel
theorem dX10_through_190 : decode cX10_through 190 = .ok (.ifCond .eq 18, 3) := by decide +kernel
theorem dX10_through_193 : decode cX10_through 193 = .ok (.aload_n 0, 1) := by decide +kernel
theorem dX10_through_194 : decode cX10_through 194 = .ok (.getfield 113, 3) := by decide +kernel
theorem dX10_through_197 : decode cX10_through 197 = .ok (.ifCond .ne 7, 3) := by decide +kernel
theorem dX10_through_200 : decode cX10_through 200 = .ok (.iconst 0, 1) := by decide +kernel
theorem dX10_through_201 : decode cX10_through 201 = .ok (.goto 8, 3) := by decide +kernel
theorem dX10_through_204 : decode cX10_through 204 = .ok (.iconst 3, 1) := by decide +kernel
theorem dX10_through_205 : decode cX10_through 205 = .ok (.goto 4, 3) := by decide +kernel
theorem dX10_through_208 : decode cX10_through 208 = .ok (.iconst 1, 1) := by decide +kernel
theorem dX10_through_209 : decode cX10_through 209 = .ok (.iastore, 1) := by decide +kernel
theorem dX10_through_210 : decode cX10_through 210 = .ok (.aload_n 0, 1) := by decide +kernel
theorem dX10_through_211 : decode cX10_through 211 = .ok (.getfield 56, 3) := by decide +kernel
theorem dX10_through_214 : decode cX10_through 214 = .ok (.iload_n 2, 1) := by decide +kernel
theorem dX10_through_215 : decode cX10_through 215 = .ok (.baload, 1) := by decide +kernel
theorem dX10_through_216 : decode cX10_through 216 = .ok (.ifCond .eq 19, 3) := by decide +kernel
theorem dX10_through_219 : decode cX10_through 219 = .ok (.aload_n 0, 1) := by decide +kernel
theorem dX10_through_220 : decode cX10_through 220 = .ok (.getfield 44, 3) := by decide +kernel
theorem dX10_through_223 : decode cX10_through 223 = .ok (.iload_n 1, 1) := by decide +kernel
theorem dX10_through_224 : decode cX10_through 224 = .ok (.iload 4, 2) := by decide +kernel
theorem dX10_through_226 : decode cX10_through 226 = .ok (.aload_n 0, 1) := by decide +kernel
theorem dX10_through_227 : decode cX10_through 227 = .ok (.getfield 113, 3) := by decide +kernel
theorem dX10_through_230 : decode cX10_through 230 = .ok (.iadd, 1) := by decide +kernel
theorem dX10_through_231 : decode cX10_through 231 = .ok (.iastore, 1) := by decide +kernel
theorem dX10_through_232 : decode cX10_through 232 = .ok (.goto 11, 3) := by decide +kernel
theorem dX10_through_235 : decode cX10_through 235 = .ok (.aload_n 0, 1) := by decide +kernel
theorem dX10_through_236 : decode cX10_through 236 = .ok (.getfield 29, 3) := by decide +kernel
theorem dX10_through_239 : decode cX10_through 239 = .ok (.iload_n 1, 1) := by decide +kernel
theorem dX10_through_240 : decode cX10_through 240 = .ok (.iload 4, 2) := by decide +kernel
theorem dX10_through_242 : decode cX10_through 242 = .ok (.iastore, 1) := by decide +kernel
theorem dX10_through_243 : decode cX10_through 243 = .ok (.return_, 1) := by decide +kernel
theorem dX10_back_0 : decode cX10_back 0 = .ok (.aload_n 0, 1) := by decide +kernel
theorem dX10_back_1 : decode cX10_back 1 = .ok (.aload_n 0, 1) := by decide +kernel
theorem dX10_back_2 : decode cX10_back 2 = .ok (.iload_n 1, 1) := by decide +kernel
theorem dX10_back_3 : decode cX10_back 3 = .ok (.invokevirtual 270, 3) := by decide +kernel
theorem dX10_back_6 : decode cX10_back 6 = .ok (.ifCond .ne 7, 3) := by decide +kernel
theorem dX10_back_9 : decode cX10_back 9 = .ok (.iconst 1, 1) := by decide +kernel
theorem dX10_back_10 : decode cX10_back 10 = .ok (.goto 4, 3) := by decide +kernel
theorem dX10_back_13 : decode cX10_back 13 = .ok (.iconst 0, 1) := by decide +kernel
theorem dX10_back_14 : decode cX10_back 14 = .ok (.putfield 147, 3) := by decide +kernel
theorem dX10_back_17 : decode cX10_back 17 = .ok (.aload_n 0, 1) := by decide +kernel
theorem dX10_back_18 : decode cX10_back 18 = .ok (.getfield 147, 3) := by decide +kernel
theorem dX10_back_21 : decode cX10_back 21 = .ok (.ifCond .gt 26, 3) := by decide +kernel
theorem dX10_back_24 : decode cX10_back 24 = .ok (.aload_n 0, 1) := by decide +kernel
theorem dX10_back_25 : decode cX10_back 25 = .ok (.getfield 74, 3) := by decide +kernel
theorem dX10_back_28 : decode cX10_back 28 = .ok (.iload_n 1, 1) := by decide +kernel
theorem dX10_back_29 : decode cX10_back 29 = .ok (.iaload, 1) := by decide +kernel
theorem dX10_back_30 : decode cX10_back 30 = .ok (.iconst 1, 1) := by decide +kernel
theorem dX10_back_31 : decode cX10_back 31 = .ok (.if_icmp .ne 16, 3) := by decide +kernel
theorem dX10_back_34 : decode cX10_back 34 = .ok (.aload_n 0, 1) := by decide +kernel
theorem dX10_back_35 : decode cX10_back 35 = .ok (.getfield 77, 3) := by decide +kernel
theorem dX10_back_38 : decode cX10_back 38 = .ok (.iload_n 1, 1) := by decide +kernel
theorem dX10_back_39 : decode cX10_back 39 = .ok (.iaload, 1) := by decide +kernel
theorem dX10_back_40 : decode cX10_back 40 = .ok (.aload_n 0, 1) := by decide +kernel
theorem dX10_back_41 : decode cX10_back 41 = .ok (.getfield 196, 3) := by decide +kernel
theorem dX10_back_44 : decode cX10_back 44 = .ok (.if_icmp .eq 5, 3) := by decide +kernel
theorem dX10_back_47 : decode cX10_back 47 = .ok (.iconst 0, 1) := by decide +kernel
theorem dX10_back_48 : decode cX10_back 48 = .ok (.ireturn, 1) := by decide +kernel
theorem dX10_back_49 : decode cX10_back 49 = .ok (.aload_n 0, 1) := by decide +kernel
theorem dX10_back_50 : decode cX10_back 50 = .ok (.getfield 74, 3) := by decide +kernel
theorem dX10_back_53 : decode cX10_back 53 = .ok (.iload_n 1, 1) := by decide +kernel
theorem dX10_back_54 : decode cX10_back 54 = .ok (.iconst 3, 1) := by decide +kernel
theorem dX10_back_55 : decode cX10_back 55 = .ok (.iastore, 1) := by decide +kernel
theorem dX10_back_56 : decode cX10_back 56 = .ok (.iconst 3, 1) := by decide +kernel
theorem dX10_back_57 : decode cX10_back 57 = .ok (.newarray .int, 2) := by decide +kernel
theorem dX10_back_59 : decode cX10_back 59 = .ok (.dup, 1) := by decide +kernel
theorem dX10_back_60 : decode cX10_back 60 = .ok (.iconst 0, 1) := by decide +kernel
theorem dX10_back_61 : decode cX10_back 61 = .ok (.aload_n 0, 1) := by decide +kernel
theorem dX10_back_62 : decode cX10_back 62 = .ok (.getfield 80, 3) := by decide +kernel
theorem dX10_back_65 : decode cX10_back 65 = .ok (.iload_n 1, 1) := by decide +kernel
theorem dX10_back_66 : decode cX10_back 66 = .ok (.iaload, 1) := by decide +kernel
theorem dX10_back_67 : decode cX10_back 67 = .ok (.iastore, 1) := by decide +kernel
theorem dX10_back_68 : decode cX10_back 68 = .ok (.dup, 1) := by decide +kernel
theorem dX10_back_69 : decode cX10_back 69 = .ok (.iconst 1, 1) := by decide +kernel
theorem dX10_back_70 : decode cX10_back 70 = .ok (.aload_n 0, 1) := by decide +kernel
theorem dX10_back_71 : decode cX10_back 71 = .ok (.getfield 83, 3) := by decide +kernel
theorem dX10_back_74 : decode cX10_back 74 = .ok (.iload_n 1, 1) := by decide +kernel
theorem dX10_back_75 : decode cX10_back 75 = .ok (.iaload, 1) := by decide +kernel
theorem dX10_back_76 : decode cX10_back 76 = .ok (.iastore, 1) := by decide +kernel
theorem dX10_back_77 : decode cX10_back 77 = .ok (.dup, 1) := by decide +kernel
theorem dX10_back_78 : decode cX10_back 78 = .ok (.iconst 2, 1) := by decide +kernel
theorem dX10_back_79 : decode cX10_back 79 = .ok (.aload_n 0, 1) := by decide +kernel
theorem dX10_back_80 : decode cX10_back 80 = .ok (.getfield 86, 3) := by decide +kernel
theorem dX10_back_83 : decode cX10_back 83 = .ok (.iload_n 1, 1) := by decide +kernel
theorem dX10_back_84 : decode cX10_back 84 = .ok (.iaload, 1) := by decide +kernel
theorem dX10_back_85 : decode cX10_back 85 = .ok (.iastore, 1) := by decide +kernel
theorem dX10_back_86 : decode cX10_back 86 = .ok (.astore_n 2, 1) := by decide +kernel
theorem dX10_back_87 : decode cX10_back 87 = .ok (.aload_n 0, 1) := by decide +kernel
theorem dX10_back_88 : decode cX10_back 88 = .ok (.getfield 80, 3) := by decide +kernel
theorem dX10_back_91 : decode cX10_back 91 = .ok (.iload_n 1, 1) := by decide +kernel
theorem dX10_back_92 : decode cX10_back 92 = .ok (.iconst (-1), 1) := by decide +kernel
theorem dX10_back_93 : decode cX10_back 93 = .ok (.iastore, 1) := by decide +kernel
theorem dX10_back_94 : decode cX10_back 94 = .ok (.aload_n 0, 1) := by decide +kernel
theorem dX10_back_95 : decode cX10_back 95 = .ok (.getfield 83, 3) := by decide +kernel
theorem dX10_back_98 : decode cX10_back 98 = .ok (.iload_n 1, 1) := by decide +kernel
theorem dX10_back_99 : decode cX10_back 99 = .ok (.iconst (-1), 1) := by decide +kernel
theorem dX10_back_100 : decode cX10_back 100 = .ok (.iastore, 1) := by decide +kernel
theorem dX10_back_101 : decode cX10_back 101 = .ok (.aload_n 0, 1) := by decide +kernel
theorem dX10_back_102 : decode cX10_back 102 = .ok (.getfield 86, 3) := by decide +kernel
theorem dX10_back_105 : decode cX10_back 105 = .ok (.iload_n 1, 1) := by decide +kernel
theorem dX10_back_106 : decode cX10_back 106 = .ok (.iconst (-1), 1) := by decide +kernel
theorem dX10_back_107 : decode cX10_back 107 = .ok (.iastore, 1) := by decide +kernel
theorem dX10_back_108 : decode cX10_back 108 = .ok (.iconst 0, 1) := by decide +kernel
theorem dX10_back_109 : decode cX10_back 109 = .ok (.istore_n 3, 1) := by decide +kernel
theorem dX10_back_110 : decode cX10_back 110 = .ok (.iload_n 3, 1) := by decide +kernel
theorem dX10_back_111 : decode cX10_back 111 = .ok (.iconst 3, 1) := by decide +kernel
theorem dX10_back_112 : decode cX10_back 112 = .ok (.if_icmp .ge 169, 3) := by decide +kernel
theorem dX10_back_115 : decode cX10_back 115 = .ok (.iconst (-1), 1) := by decide +kernel
theorem dX10_back_116 : decode cX10_back 116 = .ok (.istore 4, 2) := by decide +kernel
theorem dX10_back_118 : decode cX10_back 118 = .ok (.iconst 0, 1) := by decide +kernel
theorem dX10_back_119 : decode cX10_back 119 = .ok (.istore 5, 2) := by decide +kernel
theorem dX10_back_121 : decode cX10_back 121 = .ok (.iload 5, 2) := by decide +kernel
theorem dX10_back_123 : decode cX10_back 123 = .ok (.iconst 3, 1) := by decide +kernel
theorem dX10_back_124 : decode cX10_back 124 = .ok (.if_icmp .ge 48, 3) := by decide +kernel
theorem dX10_back_127 : decode cX10_back 127 = .ok (.aload_n 2, 1) := by decide +kernel
theorem dX10_back_128 : decode cX10_back 128 = .ok (.iload 5, 2) := by decide +kernel
theorem dX10_back_130 : decode cX10_back 130 = .ok (.iaload, 1) := by decide +kernel
theorem dX10_back_131 : decode cX10_back 131 = .ok (.iconst (-1), 1) := by decide +kernel
theorem dX10_back_132 : decode cX10_back 132 = .ok (.if_icmp .eq 34, 3) := by decide +kernel
theorem dX10_back_135 : decode cX10_back 135 = .ok (.iload 4, 2) := by decide +kernel
theorem dX10_back_137 : decode cX10_back 137 = .ok (.iconst (-1), 1) := by decide +kernel
theorem dX10_back_138 : decode cX10_back 138 = .ok (.if_icmp .eq 24, 3) := by decide +kernel
theorem dX10_back_141 : decode cX10_back 141 = .ok (.aload_n 0, 1) := by decide +kernel
theorem dX10_back_142 : decode cX10_back 142 = .ok (.getfield 50, 3) := by decide +kernel
theorem dX10_back_145 : decode cX10_back 145 = .ok (.aload_n 2, 1) := by decide +kernel
theorem dX10_back_146 : decode cX10_back 146 = .ok (.iload 5, 2) := by decide +kernel
theorem dX10_back_148 : decode cX10_back 148 = .ok (.iaload, 1) := by decide +kernel
theorem dX10_back_149 : decode cX10_back 149 = .ok (.iaload, 1) := by decide +kernel
theorem dX10_back_150 : decode cX10_back 150 = .ok (.aload_n 0, 1) := by decide +kernel
theorem dX10_back_151 : decode cX10_back 151 = .ok (.getfield 50, 3) := by decide +kernel
theorem dX10_back_154 : decode cX10_back 154 = .ok (.aload_n 2, 1) := by decide +kernel
theorem dX10_back_155 : decode cX10_back 155 = .ok (.iload 4, 2) := by decide +kernel
theorem dX10_back_157 : decode cX10_back 157 = .ok (.iaload, 1) := by decide +kernel
theorem dX10_back_158 : decode cX10_back 158 = .ok (.iaload, 1) := by decide +kernel
theorem dX10_back_159 : decode cX10_back 159 = .ok (.if_icmp .ge 7, 3) := by decide +kernel
theorem dX10_back_162 : decode cX10_back 162 = .ok (.iload 5, 2) := by decide +kernel
theorem dX10_back_164 : decode cX10_back 164 = .ok (.istore 4, 2) := by decide +kernel
theorem dX10_back_166 : decode cX10_back 166 = .ok (.iinc 5 1, 3) := by decide +kernel
theorem dX10_back_169 : decode cX10_back 169 = .ok (.goto (-48), 3) := by decide +kernel
theorem dX10_back_172 : decode cX10_back 172 = .ok (.iload 4, 2) := by decide +kernel
theorem dX10_back_174 : decode cX10_back 174 = .ok (.iconst (-1), 1) := by decide +kernel
theorem dX10_back_175 : decode cX10_back 175 = .ok (.if_icmp .ne 6, 3) := by decide +kernel
theorem dX10_back_178 : decode cX10_back 178 = .ok (.goto 97, 3) := by decide +kernel
theorem dX10_back_181 : decode cX10_back 181 = .ok (.aload_n 2, 1) := by decide +kernel
theorem dX10_back_182 : decode cX10_back 182 = .ok (.iload 4, 2) := by decide +kernel
theorem dX10_back_184 : decode cX10_back 184 = .ok (.iaload, 1) := by decide +kernel
theorem dX10_back_185 : decode cX10_back 185 = .ok (.istore 5, 2) := by decide +kernel
theorem dX10_back_187 : decode cX10_back 187 = .ok (.aload_n 2, 1) := by decide +kernel
theorem dX10_back_188 : decode cX10_back 188 = .ok (.iload 4, 2) := by decide +kernel
theorem dX10_back_190 : decode cX10_back 190 = .ok (.iconst (-1), 1) := by decide +kernel
theorem dX10_back_191 : decode cX10_back 191 = .ok (.iastore, 1) := by decide +kernel
theorem dX10_back_192 : decode cX10_back 192 = .ok (.aload_n 0, 1) := by decide +kernel
theorem dX10_back_193 : decode cX10_back 193 = .ok (.getfield 26, 3) := by decide +kernel
theorem dX10_back_196 : decode cX10_back 196 = .ok (.iload 5, 2) := by decide +kernel
theorem dX10_back_198 : decode cX10_back 198 = .ok (.aload_n 0, 1) := by decide +kernel
theorem dX10_back_199 : decode cX10_back 199 = .ok (.getfield 56, 3) := by decide +kernel
theorem dX10_back_202 : decode cX10_back 202 = .ok (.iload_n 1, 1) := by decide +kernel
theorem dX10_back_203 : decode cX10_back 203 = .ok (.baload, 1) := by decide +kernel
theorem dX10_back_204 : decode cX10_back 204 = .ok (.ifCond .eq 7, 3) := by decide +kernel
theorem dX10_back_207 : decode cX10_back 207 = .ok (.iconst 1, 1) := by decide +kernel
theorem dX10_back_208 : decode cX10_back 208 = .ok (.goto 4, 3) := by decide +kernel
theorem dX10_back_211 : decode cX10_back 211 = .ok (.iconst 0, 1) := by decide +kernel
theorem dX10_back_212 : decode cX10_back 212 = .ok (.iastore, 1) := by decide +kernel
theorem dX10_back_213 : decode cX10_back 213 = .ok (.aload_n 0, 1) := by decide +kernel
theorem dX10_back_214 : decode cX10_back 214 = .ok (.getfield 56, 3) := by decide +kernel
theorem dX10_back_217 : decode cX10_back 217 = .ok (.iload_n 1, 1) := by decide +kernel
theorem dX10_back_218 : decode cX10_back 218 = .ok (.baload, 1) := by decide +kernel
theorem dX10_back_219 : decode cX10_back 219 = .ok (.ifCond .eq 14, 3) := by decide +kernel
theorem dX10_back_222 : decode cX10_back 222 = .ok (.aload_n 0, 1) := by decide +kernel
theorem dX10_back_223 : decode cX10_back 223 = .ok (.getfield 29, 3) := by decide +kernel
theorem dX10_back_226 : decode cX10_back 226 = .ok (.iload 5, 2) := by decide +kernel
theorem dX10_back_228 : decode cX10_back 228 = .ok (.aload_n 0, 1) := by decide +kernel
theorem dX10_back_229 : decode cX10_back 229 = .ok (.getfield 196, 3) := by decide +kernel
theorem dX10_back_232 : decode cX10_back 232 = .ok (.iastore, 1) := by decide +kernel
theorem dX10_back_233 : decode cX10_back 233 = .ok (.aload_n 0, 1) := by decide +kernel
theorem dX10_back_234 : decode cX10_back 234 = .ok (.getfield 41, 3) := by decide +kernel
theorem dX10_back_237 : decode cX10_back 237 = .ok (.iload 5, 2) := by decide +kernel
theorem dX10_back_239 : decode cX10_back 239 = .ok (.iconst (-1), 1) := by decide +kernel
theorem dX10_back_240 : decode cX10_back 240 = .ok (.iastore, 1) := by decide +kernel
theorem dX10_back_241 : decode cX10_back 241 = .ok (.aload_n 0, 1) := by decide +kernel
theorem dX10_back_242 : decode cX10_back 242 = .ok (.iload 5, 2) := by decide +kernel
theorem dX10_back_244 : decode cX10_back 244 = .ok (.aload_n 0, 1) := by decide +kernel
theorem dX10_back_245 : decode cX10_back 245 = .ok (.getfield 50, 3) := by decide +kernel
theorem dX10_back_248 : decode cX10_back 248 = .ok (.iload 5, 2) := by decide +kernel
theorem dX10_back_250 : decode cX10_back 250 = .ok (.iaload, 1) := by decide +kernel
theorem dX10_back_251 : decode cX10_back 251 = .ok (.aload_n 0, 1) := by decide +kernel
theorem dX10_back_252 : decode cX10_back 252 = .ok (.getfield 160, 3) := by decide +kernel
theorem dX10_back_255 : decode cX10_back 255 = .ok (.if_icmp .ge 13, 3) := by decide +kernel
theorem dX10_back_258 : decode cX10_back 258 = .ok (.aload_n 0, 1) := by decide +kernel
theorem dX10_back_259 : decode cX10_back 259 = .ok (.getfield 50, 3) := by decide +kernel
theorem dX10_back_262 : decode cX10_back 262 = .ok (.iload 5, 2) := by decide +kernel
theorem dX10_back_264 : decode cX10_back 264 = .ok (.iaload, 1) := by decide +kernel
theorem dX10_back_265 : decode cX10_back 265 = .ok (.goto 7, 3) := by decide +kernel
theorem dX10_back_268 : decode cX10_back 268 = .ok (.aload_n 0, 1) := by decide +kernel
theorem dX10_back_269 : decode cX10_back 269 = .ok (.getfield 160, 3) := by decide +kernel
theorem dX10_back_272 : decode cX10_back 272 = .ok (.invokevirtual 228, 3) := by decide +kernel
theorem dX10_back_275 : decode cX10_back 275 = .ok (.iinc 3 1, 3) := by decide +kernel
theorem dX10_back_278 : decode cX10_back 278 = .ok (.goto (-168), 3) := by decide +kernel
theorem dX10_back_281 : decode cX10_back 281 = .ok (.iconst 1, 1) := by decide +kernel
theorem dX10_back_282 : decode cX10_back 282 = .ok (.ireturn, 1) := by decide +kernel
theorem dX10_canSwap_0 : decode cX10_canSwap 0 = .ok (.aload_n 0, 1) := by decide +kernel
theorem dX10_canSwap_1 : decode cX10_canSwap 1 = .ok (.getfield 74, 3) := by decide +kernel
theorem dX10_canSwap_4 : decode cX10_canSwap 4 = .ok (.iload_n 1, 1) := by decide +kernel
theorem dX10_canSwap_5 : decode cX10_canSwap 5 = .ok (.iaload, 1) := by decide +kernel
theorem dX10_canSwap_6 : decode cX10_canSwap 6 = .ok (.iconst 1, 1) := by decide +kernel
theorem dX10_canSwap_7 : decode cX10_canSwap 7 = .ok (.if_icmp .ne 40, 3) := by decide +kernel
theorem dX10_canSwap_10 : decode cX10_canSwap 10 = .ok (.aload_n 0, 1) := by decide +kernel
theorem dX10_canSwap_11 : decode cX10_canSwap 11 = .ok (.getfield 77, 3) := by decide +kernel
theorem dX10_canSwap_14 : decode cX10_canSwap 14 = .ok (.iload_n 1, 1) := by decide +kernel
theorem dX10_canSwap_15 : decode cX10_canSwap 15 = .ok (.iaload, 1) := by decide +kernel
theorem dX10_canSwap_16 : decode cX10_canSwap 16 = .ok (.aload_n 0, 1) := by decide +kernel
theorem dX10_canSwap_17 : decode cX10_canSwap 17 = .ok (.getfield 196, 3) := by decide +kernel
theorem dX10_canSwap_20 : decode cX10_canSwap 20 = .ok (.if_icmp .ne 27, 3) := by decide +kernel
theorem dX10_canSwap_23 : decode cX10_canSwap 23 = .ok (.aload_n 0, 1) := by decide +kernel
theorem dX10_canSwap_24 : decode cX10_canSwap 24 = .ok (.getfield 80, 3) := by decide +kernel
theorem dX10_canSwap_27 : decode cX10_canSwap 27 = .ok (.iload_n 1, 1) := by decide +kernel
theorem dX10_canSwap_28 : decode cX10_canSwap 28 = .ok (.iaload, 1) := by decide +kernel
theorem dX10_canSwap_29 : decode cX10_canSwap 29 = .ok (.iconst (-1), 1) := by decide +kernel
theorem dX10_canSwap_30 : decode cX10_canSwap 30 = .ok (.if_icmp .eq 17, 3) := by decide +kernel
theorem dX10_canSwap_33 : decode cX10_canSwap 33 = .ok (.aload_n 0, 1) := by decide +kernel
theorem dX10_canSwap_34 : decode cX10_canSwap 34 = .ok (.getfield 83, 3) := by decide +kernel
theorem dX10_canSwap_37 : decode cX10_canSwap 37 = .ok (.iload_n 1, 1) := by decide +kernel
theorem dX10_canSwap_38 : decode cX10_canSwap 38 = .ok (.iaload, 1) := by decide +kernel
theorem dX10_canSwap_39 : decode cX10_canSwap 39 = .ok (.iconst (-1), 1) := by decide +kernel
theorem dX10_canSwap_40 : decode cX10_canSwap 40 = .ok (.if_icmp .ne 7, 3) := by decide +kernel
theorem dX10_canSwap_43 : decode cX10_canSwap 43 = .ok (.iconst 1, 1) := by decide +kernel
theorem dX10_canSwap_44 : decode cX10_canSwap 44 = .ok (.goto 4, 3) := by decide +kernel
theorem dX10_canSwap_47 : decode cX10_canSwap 47 = .ok (.iconst 0, 1) := by decide +kernel
theorem dX10_canSwap_48 : decode cX10_canSwap 48 = .ok (.ireturn, 1) := by decide +kernel
theorem dX10_swap_0 : decode cX10_swap 0 = .ok (.aload_n 0, 1) := by decide +kernel
theorem dX10_swap_1 : decode cX10_swap 1 = .ok (.aload_n 0, 1) := by decide +kernel
theorem dX10_swap_2 : decode cX10_swap 2 = .ok (.iload_n 1, 1) := by decide +kernel
theorem dX10_swap_3 : decode cX10_swap 3 = .ok (.invokevirtual 270, 3) := by decide +kernel
theorem dX10_swap_6 : decode cX10_swap 6 = .ok (.ifCond .eq 11, 3) := by decide +kernel
theorem dX10_swap_9 : decode cX10_swap 9 = .ok (.aload_n 0, 1) := by decide +kernel
theorem dX10_swap_10 : decode cX10_swap 10 = .ok (.iload_n 2, 1) := by decide +kernel
theorem dX10_swap_11 : decode cX10_swap 11 = .ok (.invokevirtual 270, 3) := by decide +kernel
theorem dX10_swap_14 : decode cX10_swap 14 = .ok (.ifCond .ne 7, 3) := by decide +kernel
theorem dX10_swap_17 : decode cX10_swap 17 = .ok (.iconst 1, 1) := by decide +kernel
theorem dX10_swap_18 : decode cX10_swap 18 = .ok (.goto 4, 3) := by decide +kernel
theorem dX10_swap_21 : decode cX10_swap 21 = .ok (.iconst 0, 1) := by decide +kernel
theorem dX10_swap_22 : decode cX10_swap 22 = .ok (.putfield 147, 3) := by decide +kernel
theorem dX10_swap_25 : decode cX10_swap 25 = .ok (.aload_n 0, 1) := by decide +kernel
theorem dX10_swap_26 : decode cX10_swap 26 = .ok (.getfield 147, 3) := by decide +kernel
theorem dX10_swap_29 : decode cX10_swap 29 = .ok (.ifCond .gt 39, 3) := by decide +kernel
theorem dX10_swap_32 : decode cX10_swap 32 = .ok (.iload_n 1, 1) := by decide +kernel
theorem dX10_swap_33 : decode cX10_swap 33 = .ok (.iload_n 2, 1) := by decide +kernel
theorem dX10_swap_34 : decode cX10_swap 34 = .ok (.if_icmp .eq 34, 3) := by decide +kernel
theorem dX10_swap_37 : decode cX10_swap 37 = .ok (.aload_n 0, 1) := by decide +kernel
theorem dX10_swap_38 : decode cX10_swap 38 = .ok (.iload_n 1, 1) := by decide +kernel
theorem dX10_swap_39 : decode cX10_swap 39 = .ok (.invokevirtual 273, 3) := by decide +kernel
theorem dX10_swap_42 : decode cX10_swap 42 = .ok (.ifCond .eq 26, 3) := by decide +kernel
theorem dX10_swap_45 : decode cX10_swap 45 = .ok (.aload_n 0, 1) := by decide +kernel
theorem dX10_swap_46 : decode cX10_swap 46 = .ok (.iload_n 2, 1) := by decide +kernel
theorem dX10_swap_47 : decode cX10_swap 47 = .ok (.invokevirtual 273, 3) := by decide +kernel
theorem dX10_swap_50 : decode cX10_swap 50 = .ok (.ifCond .eq 18, 3) := by decide +kernel
theorem dX10_swap_53 : decode cX10_swap 53 = .ok (.aload_n 0, 1) := by decide +kernel
theorem dX10_swap_54 : decode cX10_swap 54 = .ok (.getfield 56, 3) := by decide +kernel
theorem dX10_swap_57 : decode cX10_swap 57 = .ok (.iload_n 1, 1) := by decide +kernel
theorem dX10_swap_58 : decode cX10_swap 58 = .ok (.baload, 1) := by decide +kernel
theorem dX10_swap_59 : decode cX10_swap 59 = .ok (.aload_n 0, 1) := by decide +kernel
theorem dX10_swap_60 : decode cX10_swap 60 = .ok (.getfield 56, 3) := by decide +kernel
theorem dX10_swap_63 : decode cX10_swap 63 = .ok (.iload_n 2, 1) := by decide +kernel
theorem dX10_swap_64 : decode cX10_swap 64 = .ok (.baload, 1) := by decide +kernel
theorem dX10_swap_65 : decode cX10_swap 65 = .ok (.if_icmp .eq 5, 3) := by decide +kernel
theorem dX10_swap_68 : decode cX10_swap 68 = .ok (.iconst 0, 1) := by decide +kernel
theorem dX10_swap_69 : decode cX10_swap 69 = .ok (.ireturn, 1) := by decide +kernel
theorem dX10_swap_70 : decode cX10_swap 70 = .ok (.aload_n 0, 1) := by decide +kernel
theorem dX10_swap_71 : decode cX10_swap 71 = .ok (.getfield 80, 3) := by decide +kernel
theorem dX10_swap_74 : decode cX10_swap 74 = .ok (.iload_n 1, 1) := by decide +kernel
theorem dX10_swap_75 : decode cX10_swap 75 = .ok (.iaload, 1) := by decide +kernel
theorem dX10_swap_76 : decode cX10_swap 76 = .ok (.istore_n 3, 1) := by decide +kernel
theorem dX10_swap_77 : decode cX10_swap 77 = .ok (.aload_n 0, 1) := by decide +kernel
theorem dX10_swap_78 : decode cX10_swap 78 = .ok (.getfield 80, 3) := by decide +kernel
theorem dX10_swap_81 : decode cX10_swap 81 = .ok (.iload_n 2, 1) := by decide +kernel
theorem dX10_swap_82 : decode cX10_swap 82 = .ok (.iaload, 1) := by decide +kernel
theorem dX10_swap_83 : decode cX10_swap 83 = .ok (.istore 4, 2) := by decide +kernel
theorem dX10_swap_85 : decode cX10_swap 85 = .ok (.aload_n 0, 1) := by decide +kernel
theorem dX10_swap_86 : decode cX10_swap 86 = .ok (.iload_n 3, 1) := by decide +kernel
theorem dX10_swap_87 : decode cX10_swap 87 = .ok (.iload_n 2, 1) := by decide +kernel
theorem dX10_swap_88 : decode cX10_swap 88 = .ok (.invokevirtual 257, 3) := by decide +kernel
theorem dX10_swap_91 : decode cX10_swap 91 = .ok (.ifCond .eq 13, 3) := by decide +kernel
theorem dX10_swap_94 : decode cX10_swap 94 = .ok (.aload_n 0, 1) := by decide +kernel
theorem dX10_swap_95 : decode cX10_swap 95 = .ok (.iload 4, 2) := by decide +kernel
theorem dX10_swap_97 : decode cX10_swap 97 = .ok (.iload_n 1, 1) := by decide +kernel
theorem dX10_swap_98 : decode cX10_swap 98 = .ok (.invokevirtual 257, 3) := by decide +kernel
theorem dX10_swap_101 : decode cX10_swap 101 = .ok (.ifCond .ne 5, 3) := by decide +kernel
theorem dX10_swap_104 : decode cX10_swap 104 = .ok (.iconst 0, 1) := by decide +kernel
theorem dX10_swap_105 : decode cX10_swap 105 = .ok (.ireturn, 1) := by decide +kernel
theorem dX10_swap_106 : decode cX10_swap 106 = .ok (.aload_n 0, 1) := by decide +kernel
theorem dX10_swap_107 : decode cX10_swap 107 = .ok (.getfield 80, 3) := by decide +kernel
theorem dX10_swap_110 : decode cX10_swap 110 = .ok (.iload_n 1, 1) := by decide +kernel
theorem dX10_swap_111 : decode cX10_swap 111 = .ok (.iload 4, 2) := by decide +kernel
theorem dX10_swap_113 : decode cX10_swap 113 = .ok (.iastore, 1) := by decide +kernel
theorem dX10_swap_114 : decode cX10_swap 114 = .ok (.aload_n 0, 1) := by decide +kernel
theorem dX10_swap_115 : decode cX10_swap 115 = .ok (.getfield 80, 3) := by decide +kernel
theorem dX10_swap_118 : decode cX10_swap 118 = .ok (.iload_n 2, 1) := by decide +kernel
theorem dX10_swap_119 : decode cX10_swap 119 = .ok (.iload_n 3, 1) := by decide +kernel
theorem dX10_swap_120 : decode cX10_swap 120 = .ok (.iastore, 1) := by decide +kernel
theorem dX10_swap_121 : decode cX10_swap 121 = .ok (.aload_n 0, 1) := by decide +kernel
theorem dX10_swap_122 : decode cX10_swap 122 = .ok (.getfield 41, 3) := by decide +kernel
theorem dX10_swap_125 : decode cX10_swap 125 = .ok (.iload_n 3, 1) := by decide +kernel
theorem dX10_swap_126 : decode cX10_swap 126 = .ok (.iload_n 2, 1) := by decide +kernel
theorem dX10_swap_127 : decode cX10_swap 127 = .ok (.iastore, 1) := by decide +kernel
theorem dX10_swap_128 : decode cX10_swap 128 = .ok (.aload_n 0, 1) := by decide +kernel
theorem dX10_swap_129 : decode cX10_swap 129 = .ok (.getfield 41, 3) := by decide +kernel
theorem dX10_swap_132 : decode cX10_swap 132 = .ok (.iload 4, 2) := by decide +kernel
theorem dX10_swap_134 : decode cX10_swap 134 = .ok (.iload_n 1, 1) := by decide +kernel
theorem dX10_swap_135 : decode cX10_swap 135 = .ok (.iastore, 1) := by decide +kernel
theorem dX10_swap_136 : decode cX10_swap 136 = .ok (.iconst 1, 1) := by decide +kernel
theorem dX10_swap_137 : decode cX10_swap 137 = .ok (.ireturn, 1) := by decide +kernel
theorem dX10_may_0 : decode cX10_may 0 = .ok (.aload_n 0, 1) := by decide +kernel
theorem dX10_may_1 : decode cX10_may 1 = .ok (.aload_n 0, 1) := by decide +kernel
theorem dX10_may_2 : decode cX10_may 2 = .ok (.iload_n 1, 1) := by decide +kernel
theorem dX10_may_3 : decode cX10_may 3 = .ok (.invokevirtual 175, 3) := by decide +kernel
theorem dX10_may_6 : decode cX10_may 6 = .ok (.ifCond .eq 11, 3) := by decide +kernel
theorem dX10_may_9 : decode cX10_may 9 = .ok (.aload_n 0, 1) := by decide +kernel
theorem dX10_may_10 : decode cX10_may 10 = .ok (.iload_n 2, 1) := by decide +kernel
theorem dX10_may_11 : decode cX10_may 11 = .ok (.invokevirtual 270, 3) := by decide +kernel
theorem dX10_may_14 : decode cX10_may 14 = .ok (.ifCond .ne 7, 3) := by decide +kernel
theorem dX10_may_17 : decode cX10_may 17 = .ok (.iconst 1, 1) := by decide +kernel
theorem dX10_may_18 : decode cX10_may 18 = .ok (.goto 4, 3) := by decide +kernel
theorem dX10_may_21 : decode cX10_may 21 = .ok (.iconst 0, 1) := by decide +kernel
theorem dX10_may_22 : decode cX10_may 22 = .ok (.putfield 147, 3) := by decide +kernel
theorem dX10_may_25 : decode cX10_may 25 = .ok (.aload_n 0, 1) := by decide +kernel
theorem dX10_may_26 : decode cX10_may 26 = .ok (.getfield 147, 3) := by decide +kernel
theorem dX10_may_29 : decode cX10_may 29 = .ok (.ifCond .ne 16, 3) := by decide +kernel
theorem dX10_may_32 : decode cX10_may 32 = .ok (.aload_n 0, 1) := by decide +kernel
theorem dX10_may_33 : decode cX10_may 33 = .ok (.iload_n 1, 1) := by decide +kernel
theorem dX10_may_34 : decode cX10_may 34 = .ok (.iload_n 2, 1) := by decide +kernel
theorem dX10_may_35 : decode cX10_may 35 = .ok (.invokevirtual 257, 3) := by decide +kernel
theorem dX10_may_38 : decode cX10_may 38 = .ok (.ifCond .eq 7, 3) := by decide +kernel
theorem dX10_may_41 : decode cX10_may 41 = .ok (.iconst 1, 1) := by decide +kernel
theorem dX10_may_42 : decode cX10_may 42 = .ok (.goto 4, 3) := by decide +kernel
theorem dX10_may_45 : decode cX10_may 45 = .ok (.iconst 0, 1) := by decide +kernel
theorem dX10_may_46 : decode cX10_may 46 = .ok (.ireturn, 1) := by decide +kernel
theorem dX10_window_0 : decode cX10_window 0 = .ok (.aload_n 0, 1) := by decide +kernel
theorem dX10_window_1 : decode cX10_window 1 = .ok (.aload_n 0, 1) := by decide +kernel
theorem dX10_window_2 : decode cX10_window 2 = .ok (.iload_n 1, 1) := by decide +kernel
theorem dX10_window_3 : decode cX10_window 3 = .ok (.invokevirtual 270, 3) := by decide +kernel
theorem dX10_window_6 : decode cX10_window 6 = .ok (.ifCond .ne 7, 3) := by decide +kernel
theorem dX10_window_9 : decode cX10_window 9 = .ok (.iconst 1, 1) := by decide +kernel
theorem dX10_window_10 : decode cX10_window 10 = .ok (.goto 4, 3) := by decide +kernel
theorem dX10_window_13 : decode cX10_window 13 = .ok (.iconst 0, 1) := by decide +kernel
theorem dX10_window_14 : decode cX10_window 14 = .ok (.putfield 147, 3) := by decide +kernel
theorem dX10_window_17 : decode cX10_window 17 = .ok (.aload_n 0, 1) := by decide +kernel
theorem dX10_window_18 : decode cX10_window 18 = .ok (.getfield 147, 3) := by decide +kernel
theorem dX10_window_21 : decode cX10_window 21 = .ok (.ifCond .ne 27, 3) := by decide +kernel
theorem dX10_window_24 : decode cX10_window 24 = .ok (.iload_n 2, 1) := by decide +kernel
theorem dX10_window_25 : decode cX10_window 25 = .ok (.iconst 0, 1) := by decide +kernel
theorem dX10_window_26 : decode cX10_window 26 = .ok (.sipush 9599, 3) := by decide +kernel
theorem dX10_window_29 : decode cX10_window 29 = .ok (.invokestatic 156, 3) := by decide +kernel
theorem dX10_window_32 : decode cX10_window 32 = .ok (.ifCond .eq 16, 3) := by decide +kernel
theorem dX10_window_35 : decode cX10_window 35 = .ok (.aload_n 0, 1) := by decide +kernel
theorem dX10_window_36 : decode cX10_window 36 = .ok (.iload_n 1, 1) := by decide +kernel
theorem dX10_window_37 : decode cX10_window 37 = .ok (.iload_n 2, 1) := by decide +kernel
theorem dX10_window_38 : decode cX10_window 38 = .ok (.invokevirtual 232, 3) := by decide +kernel
theorem dX10_window_41 : decode cX10_window 41 = .ok (.ifCond .eq 7, 3) := by decide +kernel
theorem dX10_window_44 : decode cX10_window 44 = .ok (.iconst 1, 1) := by decide +kernel
theorem dX10_window_45 : decode cX10_window 45 = .ok (.goto 4, 3) := by decide +kernel
theorem dX10_window_48 : decode cX10_window 48 = .ok (.iconst 0, 1) := by decide +kernel
theorem dX10_window_49 : decode cX10_window 49 = .ok (.ireturn, 1) := by decide +kernel
theorem dX10_seats_0 : decode cX10_seats 0 = .ok (.aload_n 0, 1) := by decide +kernel
theorem dX10_seats_1 : decode cX10_seats 1 = .ok (.iconst 0, 1) := by decide +kernel
theorem dX10_seats_2 : decode cX10_seats 2 = .ok (.putfield 147, 3) := by decide +kernel
theorem dX10_seats_5 : decode cX10_seats 5 = .ok (.iload_n 1, 1) := by decide +kernel
theorem dX10_seats_6 : decode cX10_seats 6 = .ok (.iconst 0, 1) := by decide +kernel
theorem dX10_seats_7 : decode cX10_seats 7 = .ok (.sipush 9599, 3) := by decide +kernel
theorem dX10_seats_10 : decode cX10_seats 10 = .ok (.invokestatic 156, 3) := by decide +kernel
theorem dX10_seats_13 : decode cX10_seats 13 = .ok (.ifCond .ne 7, 3) := by decide +kernel
theorem dX10_seats_16 : decode cX10_seats 16 = .ok (.iconst 0, 1) := by decide +kernel
theorem dX10_seats_17 : decode cX10_seats 17 = .ok (.goto 20, 3) := by decide +kernel
theorem dX10_seats_20 : decode cX10_seats 20 = .ok (.iload_n 2, 1) := by decide +kernel
theorem dX10_seats_21 : decode cX10_seats 21 = .ok (.ifCond .eq 11, 3) := by decide +kernel
theorem dX10_seats_24 : decode cX10_seats 24 = .ok (.aload_n 0, 1) := by decide +kernel
theorem dX10_seats_25 : decode cX10_seats 25 = .ok (.iload_n 1, 1) := by decide +kernel
theorem dX10_seats_26 : decode cX10_seats 26 = .ok (.invokevirtual 178, 3) := by decide +kernel
theorem dX10_seats_29 : decode cX10_seats 29 = .ok (.goto 8, 3) := by decide +kernel
theorem dX10_seats_32 : decode cX10_seats 32 = .ok (.aload_n 0, 1) := by decide +kernel
theorem dX10_seats_33 : decode cX10_seats 33 = .ok (.iload_n 1, 1) := by decide +kernel
theorem dX10_seats_34 : decode cX10_seats 34 = .ok (.invokevirtual 215, 3) := by decide +kernel
theorem dX10_seats_37 : decode cX10_seats 37 = .ok (.ireturn, 1) := by decide +kernel
theorem dX10_list_0 : decode cX10_list 0 = .ok (.aload_n 0, 1) := by decide +kernel
theorem dX10_list_1 : decode cX10_list 1 = .ok (.iconst 0, 1) := by decide +kernel
theorem dX10_list_2 : decode cX10_list 2 = .ok (.putfield 147, 3) := by decide +kernel
theorem dX10_list_5 : decode cX10_list 5 = .ok (.iload_n 1, 1) := by decide +kernel
theorem dX10_list_6 : decode cX10_list 6 = .ok (.ifCond .lt 11, 3) := by decide +kernel
theorem dX10_list_9 : decode cX10_list 9 = .ok (.iload_n 1, 1) := by decide +kernel
theorem dX10_list_10 : decode cX10_list 10 = .ok (.aload_n 0, 1) := by decide +kernel
theorem dX10_list_11 : decode cX10_list 11 = .ok (.getfield 160, 3) := by decide +kernel
theorem dX10_list_14 : decode cX10_list 14 = .ok (.if_icmp .lt 7, 3) := by decide +kernel
theorem dX10_list_17 : decode cX10_list 17 = .ok (.iconst (-1), 1) := by decide +kernel
theorem dX10_list_18 : decode cX10_list 18 = .ok (.goto 9, 3) := by decide +kernel
theorem dX10_list_21 : decode cX10_list 21 = .ok (.aload_n 0, 1) := by decide +kernel
theorem dX10_list_22 : decode cX10_list 22 = .ok (.getfield 53, 3) := by decide +kernel
theorem dX10_list_25 : decode cX10_list 25 = .ok (.iload_n 1, 1) := by decide +kernel
theorem dX10_list_26 : decode cX10_list 26 = .ok (.iaload, 1) := by decide +kernel
theorem dX10_list_27 : decode cX10_list 27 = .ok (.ireturn, 1) := by decide +kernel
theorem dX10_asked_0 : decode cX10_asked 0 = .ok (.aload_n 0, 1) := by decide +kernel
theorem dX10_asked_1 : decode cX10_asked 1 = .ok (.iconst 0, 1) := by decide +kernel
theorem dX10_asked_2 : decode cX10_asked 2 = .ok (.putfield 147, 3) := by decide +kernel
theorem dX10_asked_5 : decode cX10_asked 5 = .ok (.iload_n 1, 1) := by decide +kernel
theorem dX10_asked_6 : decode cX10_asked 6 = .ok (.ifCond .lt 18, 3) := by decide +kernel
theorem dX10_asked_9 : decode cX10_asked 9 = .ok (.iload_n 1, 1) := by decide +kernel
theorem dX10_asked_10 : decode cX10_asked 10 = .ok (.aload_n 0, 1) := by decide +kernel
theorem dX10_asked_11 : decode cX10_asked 11 = .ok (.getfield 199, 3) := by decide +kernel
theorem dX10_asked_14 : decode cX10_asked 14 = .ok (.if_icmp .ge 10, 3) := by decide +kernel
theorem dX10_asked_17 : decode cX10_asked 17 = .ok (.iload_n 1, 1) := by decide +kernel
theorem dX10_asked_18 : decode cX10_asked 18 = .ok (.sipush 300, 3) := by decide +kernel
theorem dX10_asked_21 : decode cX10_asked 21 = .ok (.if_icmp .lt 5, 3) := by decide +kernel
theorem dX10_asked_24 : decode cX10_asked 24 = .ok (.iconst (-1), 1) := by decide +kernel
theorem dX10_asked_25 : decode cX10_asked 25 = .ok (.ireturn, 1) := by decide +kernel
theorem dX10_asked_26 : decode cX10_asked 26 = .ok (.iload_n 2, 1) := by decide +kernel
theorem dX10_asked_27 : decode cX10_asked 27 = .ok (.ifCond .ne 12, 3) := by decide +kernel
theorem dX10_asked_30 : decode cX10_asked 30 = .ok (.aload_n 0, 1) := by decide +kernel
theorem dX10_asked_31 : decode cX10_asked 31 = .ok (.getfield 126, 3) := by decide +kernel
theorem dX10_asked_34 : decode cX10_asked 34 = .ok (.iload_n 1, 1) := by decide +kernel
theorem dX10_asked_35 : decode cX10_asked 35 = .ok (.iaload, 1) := by decide +kernel
theorem dX10_asked_36 : decode cX10_asked 36 = .ok (.goto 32, 3) := by decide +kernel
theorem dX10_asked_39 : decode cX10_asked 39 = .ok (.iload_n 2, 1) := by decide +kernel
theorem dX10_asked_40 : decode cX10_asked 40 = .ok (.iconst 1, 1) := by decide +kernel
theorem dX10_asked_41 : decode cX10_asked 41 = .ok (.if_icmp .ne 12, 3) := by decide +kernel
theorem dX10_asked_44 : decode cX10_asked 44 = .ok (.aload_n 0, 1) := by decide +kernel
theorem dX10_asked_45 : decode cX10_asked 45 = .ok (.getfield 129, 3) := by decide +kernel
theorem dX10_asked_48 : decode cX10_asked 48 = .ok (.iload_n 1, 1) := by decide +kernel
theorem dX10_asked_49 : decode cX10_asked 49 = .ok (.iaload, 1) := by decide +kernel
theorem dX10_asked_50 : decode cX10_asked 50 = .ok (.goto 18, 3) := by decide +kernel
theorem dX10_asked_53 : decode cX10_asked 53 = .ok (.iload_n 2, 1) := by decide +kernel
theorem dX10_asked_54 : decode cX10_asked 54 = .ok (.iconst 2, 1) := by decide +kernel
theorem dX10_asked_55 : decode cX10_asked 55 = .ok (.if_icmp .ne 12, 3) := by decide +kernel
theorem dX10_asked_58 : decode cX10_asked 58 = .ok (.aload_n 0, 1) := by decide +kernel
theorem dX10_asked_59 : decode cX10_asked 59 = .ok (.getfield 132, 3) := by decide +kernel
theorem dX10_asked_62 : decode cX10_asked 62 = .ok (.iload_n 1, 1) := by decide +kernel
theorem dX10_asked_63 : decode cX10_asked 63 = .ok (.iaload, 1) := by decide +kernel
theorem dX10_asked_64 : decode cX10_asked 64 = .ok (.goto 4, 3) := by decide +kernel
theorem dX10_asked_67 : decode cX10_asked 67 = .ok (.iconst (-1), 1) := by decide +kernel
theorem dX10_asked_68 : decode cX10_asked 68 = .ok (.ireturn, 1) := by decide +kernel
theorem dX10_offs_0 : decode cX10_offs 0 = .ok (.iconst 0, 1) := by decide +kernel
theorem dX10_offs_1 : decode cX10_offs 1 = .ok (.istore_n 2, 1) := by decide +kernel
theorem dX10_offs_2 : decode cX10_offs 2 = .ok (.iconst 0, 1) := by decide +kernel
theorem dX10_offs_3 : decode cX10_offs 3 = .ok (.istore_n 3, 1) := by decide +kernel
theorem dX10_offs_4 : decode cX10_offs 4 = .ok (.iload_n 3, 1) := by decide +kernel
theorem dX10_offs_5 : decode cX10_offs 5 = .ok (.sipush 400, 3) := by decide +kernel
theorem dX10_offs_8 : decode cX10_offs 8 = .ok (.if_icmp .ge 32, 3) := by decide +kernel
theorem dX10_offs_11 : decode cX10_offs 11 = .ok (.iload_n 2, 1) := by decide +kernel
theorem dX10_offs_12 : decode cX10_offs 12 = .ok (.aload_n 0, 1) := by decide +kernel
theorem dX10_offs_13 : decode cX10_offs 13 = .ok (.getfield 23, 3) := by decide +kernel
theorem dX10_offs_16 : decode cX10_offs 16 = .ok (.sipush 400, 3) := by decide +kernel
theorem dX10_offs_19 : decode cX10_offs 19 = .ok (.iload_n 1, 1) := by decide +kernel
theorem dX10_offs_20 : decode cX10_offs 20 = .ok (.imul, 1) := by decide +kernel
theorem dX10_offs_21 : decode cX10_offs 21 = .ok (.iload_n 3, 1) := by decide +kernel
theorem dX10_offs_22 : decode cX10_offs 22 = .ok (.iadd, 1) := by decide +kernel
theorem dX10_offs_23 : decode cX10_offs 23 = .ok (.baload, 1) := by decide +kernel
theorem dX10_offs_24 : decode cX10_offs 24 = .ok (.ifCond .eq 7, 3) := by decide +kernel
theorem dX10_offs_27 : decode cX10_offs 27 = .ok (.iconst 1, 1) := by decide +kernel
theorem dX10_offs_28 : decode cX10_offs 28 = .ok (.goto 4, 3) := by decide +kernel
theorem dX10_offs_31 : decode cX10_offs 31 = .ok (.iconst 0, 1) := by decide +kernel
theorem dX10_offs_32 : decode cX10_offs 32 = .ok (.iadd, 1) := by decide +kernel
theorem dX10_offs_33 : decode cX10_offs 33 = .ok (.istore_n 2, 1) := by decide +kernel
theorem dX10_offs_34 : decode cX10_offs 34 = .ok (.iinc 3 1, 3) := by decide +kernel
theorem dX10_offs_37 : decode cX10_offs 37 = .ok (.goto (-33), 3) := by decide +kernel
theorem dX10_offs_40 : decode cX10_offs 40 = .ok (.iload_n 2, 1) := by decide +kernel
theorem dX10_offs_41 : decode cX10_offs 41 = .ok (.ireturn, 1) := by decide +kernel
theorem dX10_look_0 : decode cX10_look 0 = .ok (.aload_n 0, 1) := by decide +kernel
theorem dX10_look_1 : decode cX10_look 1 = .ok (.aload_n 0, 1) := by decide +kernel
theorem dX10_look_2 : decode cX10_look 2 = .ok (.iload_n 1, 1) := by decide +kernel
theorem dX10_look_3 : decode cX10_look 3 = .ok (.invokevirtual 175, 3) := by decide +kernel
theorem dX10_look_6 : decode cX10_look 6 = .ok (.ifCond .ne 7, 3) := by decide +kernel
theorem dX10_look_9 : decode cX10_look 9 = .ok (.iconst 1, 1) := by decide +kernel
theorem dX10_look_10 : decode cX10_look 10 = .ok (.goto 18, 3) := by decide +kernel
theorem dX10_look_13 : decode cX10_look 13 = .ok (.iload_n 2, 1) := by decide +kernel
theorem dX10_look_14 : decode cX10_look 14 = .ok (.iconst 0, 1) := by decide +kernel
theorem dX10_look_15 : decode cX10_look 15 = .ok (.bipush 10, 2) := by decide +kernel
theorem dX10_look_17 : decode cX10_look 17 = .ok (.invokestatic 156, 3) := by decide +kernel
theorem dX10_look_20 : decode cX10_look 20 = .ok (.ifCond .ne 7, 3) := by decide +kernel
theorem dX10_look_23 : decode cX10_look 23 = .ok (.iconst 2, 1) := by decide +kernel
theorem dX10_look_24 : decode cX10_look 24 = .ok (.goto 4, 3) := by decide +kernel
theorem dX10_look_27 : decode cX10_look 27 = .ok (.iconst 0, 1) := by decide +kernel
theorem dX10_look_28 : decode cX10_look 28 = .ok (.putfield 147, 3) := by decide +kernel
theorem dX10_look_31 : decode cX10_look 31 = .ok (.aload_n 0, 1) := by decide +kernel
theorem dX10_look_32 : decode cX10_look 32 = .ok (.getfield 147, 3) := by decide +kernel
theorem dX10_look_35 : decode cX10_look 35 = .ok (.ifCond .le 5, 3) := by decide +kernel
theorem dX10_look_38 : decode cX10_look 38 = .ok (.iconst 0, 1) := by decide +kernel
theorem dX10_look_39 : decode cX10_look 39 = .ok (.ireturn, 1) := by decide +kernel
theorem dX10_look_40 : decode cX10_look 40 = .ok (.iload_n 2, 1) := by decide +kernel
theorem dX10_look_41 : decode cX10_look 41 = .ok (.tableswitch 132 0 9 #[55, 62, 69, 76, 83, 90, 97, 104, 110, 117], 55) := by decide +kernel
theorem dX10_look_96 : decode cX10_look 96 = .ok (.aload_n 0, 1) := by decide +kernel
theorem dX10_look_97 : decode cX10_look 97 = .ok (.getfield 7, 3) := by decide +kernel
theorem dX10_look_100 : decode cX10_look 100 = .ok (.iload_n 1, 1) := by decide +kernel
theorem dX10_look_101 : decode cX10_look 101 = .ok (.iaload, 1) := by decide +kernel
theorem dX10_look_102 : decode cX10_look 102 = .ok (.ireturn, 1) := by decide +kernel
theorem dX10_look_103 : decode cX10_look 103 = .ok (.aload_n 0, 1) := by decide +kernel
theorem dX10_look_104 : decode cX10_look 104 = .ok (.getfield 13, 3) := by decide +kernel
theorem dX10_look_107 : decode cX10_look 107 = .ok (.iload_n 1, 1) := by decide +kernel
theorem dX10_look_108 : decode cX10_look 108 = .ok (.iaload, 1) := by decide +kernel
theorem dX10_look_109 : decode cX10_look 109 = .ok (.ireturn, 1) := by decide +kernel
theorem dX10_look_110 : decode cX10_look 110 = .ok (.aload_n 0, 1) := by decide +kernel
theorem dX10_look_111 : decode cX10_look 111 = .ok (.getfield 16, 3) := by decide +kernel
theorem dX10_look_114 : decode cX10_look 114 = .ok (.iload_n 1, 1) := by decide +kernel
theorem dX10_look_115 : decode cX10_look 115 = .ok (.iaload, 1) := by decide +kernel
theorem dX10_look_116 : decode cX10_look 116 = .ok (.ireturn, 1) := by decide +kernel
theorem dX10_look_117 : decode cX10_look 117 = .ok (.aload_n 0, 1) := by decide +kernel
theorem dX10_look_118 : decode cX10_look 118 = .ok (.getfield 26, 3) := by decide +kernel
theorem dX10_look_121 : decode cX10_look 121 = .ok (.iload_n 1, 1) := by decide +kernel
theorem dX10_look_122 : decode cX10_look 122 = .ok (.iaload, 1) := by decide +kernel
theorem dX10_look_123 : decode cX10_look 123 = .ok (.ireturn, 1) := by decide +kernel
theorem dX10_look_124 : decode cX10_look 124 = .ok (.aload_n 0, 1) := by decide +kernel
theorem dX10_look_125 : decode cX10_look 125 = .ok (.getfield 32, 3) := by decide +kernel
theorem dX10_look_128 : decode cX10_look 128 = .ok (.iload_n 1, 1) := by decide +kernel
theorem dX10_look_129 : decode cX10_look 129 = .ok (.iaload, 1) := by decide +kernel
theorem dX10_look_130 : decode cX10_look 130 = .ok (.ireturn, 1) := by decide +kernel
theorem dX10_look_131 : decode cX10_look 131 = .ok (.aload_n 0, 1) := by decide +kernel
theorem dX10_look_132 : decode cX10_look 132 = .ok (.getfield 35, 3) := by decide +kernel
theorem dX10_look_135 : decode cX10_look 135 = .ok (.iload_n 1, 1) := by decide +kernel
theorem dX10_look_136 : decode cX10_look 136 = .ok (.iaload, 1) := by decide +kernel
theorem dX10_look_137 : decode cX10_look 137 = .ok (.ireturn, 1) := by decide +kernel
theorem dX10_look_138 : decode cX10_look 138 = .ok (.aload_n 0, 1) := by decide +kernel
theorem dX10_look_139 : decode cX10_look 139 = .ok (.getfield 38, 3) := by decide +kernel
theorem dX10_look_142 : decode cX10_look 142 = .ok (.iload_n 1, 1) := by decide +kernel
theorem dX10_look_143 : decode cX10_look 143 = .ok (.iaload, 1) := by decide +kernel
theorem dX10_look_144 : decode cX10_look 144 = .ok (.ireturn, 1) := by decide +kernel
theorem dX10_look_145 : decode cX10_look 145 = .ok (.aload_n 0, 1) := by decide +kernel
theorem dX10_look_146 : decode cX10_look 146 = .ok (.iload_n 1, 1) := by decide +kernel
theorem dX10_look_147 : decode cX10_look 147 = .ok (.invokevirtual 182, 3) := by decide +kernel
theorem dX10_look_150 : decode cX10_look 150 = .ok (.ireturn, 1) := by decide +kernel
theorem dX10_look_151 : decode cX10_look 151 = .ok (.aload_n 0, 1) := by decide +kernel
theorem dX10_look_152 : decode cX10_look 152 = .ok (.getfield 41, 3) := by decide +kernel
theorem dX10_look_155 : decode cX10_look 155 = .ok (.iload_n 1, 1) := by decide +kernel
theorem dX10_look_156 : decode cX10_look 156 = .ok (.iaload, 1) := by decide +kernel
theorem dX10_look_157 : decode cX10_look 157 = .ok (.ireturn, 1) := by decide +kernel
theorem dX10_look_158 : decode cX10_look 158 = .ok (.aload_n 0, 1) := by decide +kernel
theorem dX10_look_159 : decode cX10_look 159 = .ok (.getfield 19, 3) := by decide +kernel
theorem dX10_look_162 : decode cX10_look 162 = .ok (.iload_n 1, 1) := by decide +kernel
theorem dX10_look_163 : decode cX10_look 163 = .ok (.baload, 1) := by decide +kernel
theorem dX10_look_164 : decode cX10_look 164 = .ok (.ifCond .eq 7, 3) := by decide +kernel
theorem dX10_look_167 : decode cX10_look 167 = .ok (.iconst 1, 1) := by decide +kernel
theorem dX10_look_168 : decode cX10_look 168 = .ok (.goto 4, 3) := by decide +kernel
theorem dX10_look_171 : decode cX10_look 171 = .ok (.iconst 0, 1) := by decide +kernel
theorem dX10_look_172 : decode cX10_look 172 = .ok (.ireturn, 1) := by decide +kernel
theorem dX10_look_173 : decode cX10_look 173 = .ok (.aload_n 0, 1) := by decide +kernel
theorem dX10_look_174 : decode cX10_look 174 = .ok (.iload_n 1, 1) := by decide +kernel
theorem dX10_look_175 : decode cX10_look 175 = .ok (.invokevirtual 276, 3) := by decide +kernel
theorem dX10_look_178 : decode cX10_look 178 = .ok (.ireturn, 1) := by decide +kernel
theorem dX10_craft_0 : decode cX10_craft 0 = .ok (.aload_n 0, 1) := by decide +kernel
theorem dX10_craft_1 : decode cX10_craft 1 = .ok (.aload_n 0, 1) := by decide +kernel
theorem dX10_craft_2 : decode cX10_craft 2 = .ok (.iload_n 1, 1) := by decide +kernel
theorem dX10_craft_3 : decode cX10_craft 3 = .ok (.invokevirtual 270, 3) := by decide +kernel
theorem dX10_craft_6 : decode cX10_craft 6 = .ok (.ifCond .ne 7, 3) := by decide +kernel
theorem dX10_craft_9 : decode cX10_craft 9 = .ok (.iconst 1, 1) := by decide +kernel
theorem dX10_craft_10 : decode cX10_craft 10 = .ok (.goto 18, 3) := by decide +kernel
theorem dX10_craft_13 : decode cX10_craft 13 = .ok (.iload_n 2, 1) := by decide +kernel
theorem dX10_craft_14 : decode cX10_craft 14 = .ok (.iconst 0, 1) := by decide +kernel
theorem dX10_craft_15 : decode cX10_craft 15 = .ok (.bipush 9, 2) := by decide +kernel
theorem dX10_craft_17 : decode cX10_craft 17 = .ok (.invokestatic 156, 3) := by decide +kernel
theorem dX10_craft_20 : decode cX10_craft 20 = .ok (.ifCond .ne 7, 3) := by decide +kernel
theorem dX10_craft_23 : decode cX10_craft 23 = .ok (.iconst 2, 1) := by decide +kernel
theorem dX10_craft_24 : decode cX10_craft 24 = .ok (.goto 4, 3) := by decide +kernel
theorem dX10_craft_27 : decode cX10_craft 27 = .ok (.iconst 0, 1) := by decide +kernel
theorem dX10_craft_28 : decode cX10_craft 28 = .ok (.putfield 147, 3) := by decide +kernel
theorem dX10_craft_31 : decode cX10_craft 31 = .ok (.aload_n 0, 1) := by decide +kernel
theorem dX10_craft_32 : decode cX10_craft 32 = .ok (.getfield 147, 3) := by decide +kernel
theorem dX10_craft_35 : decode cX10_craft 35 = .ok (.ifCond .le 5, 3) := by decide +kernel
theorem dX10_craft_38 : decode cX10_craft 38 = .ok (.iconst 0, 1) := by decide +kernel
theorem dX10_craft_39 : decode cX10_craft 39 = .ok (.ireturn, 1) := by decide +kernel
theorem dX10_craft_40 : decode cX10_craft 40 = .ok (.iload_n 2, 1) := by decide +kernel
theorem dX10_craft_41 : decode cX10_craft 41 = .ok (.tableswitch 114 0 8 #[51, 58, 65, 72, 79, 86, 93, 100, 107], 51) := by decide +kernel
theorem dX10_craft_92 : decode cX10_craft 92 = .ok (.aload_n 0, 1) := by decide +kernel
theorem dX10_craft_93 : decode cX10_craft 93 = .ok (.getfield 74, 3) := by decide +kernel
theorem dX10_craft_96 : decode cX10_craft 96 = .ok (.iload_n 1, 1) := by decide +kernel
theorem dX10_craft_97 : decode cX10_craft 97 = .ok (.iaload, 1) := by decide +kernel
theorem dX10_craft_98 : decode cX10_craft 98 = .ok (.ireturn, 1) := by decide +kernel
theorem dX10_craft_99 : decode cX10_craft 99 = .ok (.aload_n 0, 1) := by decide +kernel
theorem dX10_craft_100 : decode cX10_craft 100 = .ok (.getfield 77, 3) := by decide +kernel
theorem dX10_craft_103 : decode cX10_craft 103 = .ok (.iload_n 1, 1) := by decide +kernel
theorem dX10_craft_104 : decode cX10_craft 104 = .ok (.iaload, 1) := by decide +kernel
theorem dX10_craft_105 : decode cX10_craft 105 = .ok (.ireturn, 1) := by decide +kernel
theorem dX10_craft_106 : decode cX10_craft 106 = .ok (.aload_n 0, 1) := by decide +kernel
theorem dX10_craft_107 : decode cX10_craft 107 = .ok (.getfield 80, 3) := by decide +kernel
theorem dX10_craft_110 : decode cX10_craft 110 = .ok (.iload_n 1, 1) := by decide +kernel
theorem dX10_craft_111 : decode cX10_craft 111 = .ok (.iaload, 1) := by decide +kernel
theorem dX10_craft_112 : decode cX10_craft 112 = .ok (.ireturn, 1) := by decide +kernel
theorem dX10_craft_113 : decode cX10_craft 113 = .ok (.aload_n 0, 1) := by decide +kernel
theorem dX10_craft_114 : decode cX10_craft 114 = .ok (.getfield 83, 3) := by decide +kernel
theorem dX10_craft_117 : decode cX10_craft 117 = .ok (.iload_n 1, 1) := by decide +kernel
theorem dX10_craft_118 : decode cX10_craft 118 = .ok (.iaload, 1) := by decide +kernel
theorem dX10_craft_119 : decode cX10_craft 119 = .ok (.ireturn, 1) := by decide +kernel
theorem dX10_craft_120 : decode cX10_craft 120 = .ok (.aload_n 0, 1) := by decide +kernel
theorem dX10_craft_121 : decode cX10_craft 121 = .ok (.getfield 86, 3) := by decide +kernel
theorem dX10_craft_124 : decode cX10_craft 124 = .ok (.iload_n 1, 1) := by decide +kernel
theorem dX10_craft_125 : decode cX10_craft 125 = .ok (.iaload, 1) := by decide +kernel
theorem dX10_craft_126 : decode cX10_craft 126 = .ok (.ireturn, 1) := by decide +kernel
theorem dX10_craft_127 : decode cX10_craft 127 = .ok (.aload_n 0, 1) := by decide +kernel
theorem dX10_craft_128 : decode cX10_craft 128 = .ok (.getfield 89, 3) := by decide +kernel
theorem dX10_craft_131 : decode cX10_craft 131 = .ok (.iload_n 1, 1) := by decide +kernel
theorem dX10_craft_132 : decode cX10_craft 132 = .ok (.iaload, 1) := by decide +kernel
theorem dX10_craft_133 : decode cX10_craft 133 = .ok (.ireturn, 1) := by decide +kernel
theorem dX10_craft_134 : decode cX10_craft 134 = .ok (.aload_n 0, 1) := by decide +kernel
theorem dX10_craft_135 : decode cX10_craft 135 = .ok (.getfield 92, 3) := by decide +kernel
theorem dX10_craft_138 : decode cX10_craft 138 = .ok (.iload_n 1, 1) := by decide +kernel
theorem dX10_craft_139 : decode cX10_craft 139 = .ok (.iaload, 1) := by decide +kernel
theorem dX10_craft_140 : decode cX10_craft 140 = .ok (.ireturn, 1) := by decide +kernel
theorem dX10_craft_141 : decode cX10_craft 141 = .ok (.aload_n 0, 1) := by decide +kernel
theorem dX10_craft_142 : decode cX10_craft 142 = .ok (.getfield 95, 3) := by decide +kernel
theorem dX10_craft_145 : decode cX10_craft 145 = .ok (.iload_n 1, 1) := by decide +kernel
theorem dX10_craft_146 : decode cX10_craft 146 = .ok (.iaload, 1) := by decide +kernel
theorem dX10_craft_147 : decode cX10_craft 147 = .ok (.ireturn, 1) := by decide +kernel
theorem dX10_craft_148 : decode cX10_craft 148 = .ok (.aload_n 0, 1) := by decide +kernel
theorem dX10_craft_149 : decode cX10_craft 149 = .ok (.getfield 59, 3) := by decide +kernel
theorem dX10_craft_152 : decode cX10_craft 152 = .ok (.iload_n 1, 1) := by decide +kernel
theorem dX10_craft_153 : decode cX10_craft 153 = .ok (.iaload, 1) := by decide +kernel
theorem dX10_craft_154 : decode cX10_craft 154 = .ok (.ireturn, 1) := by decide +kernel
theorem dX10_craft_155 : decode cX10_craft 155 = .ok (.aload_n 0, 1) := by decide +kernel
theorem dX10_craft_156 : decode cX10_craft 156 = .ok (.getfield 62, 3) := by decide +kernel
theorem dX10_craft_159 : decode cX10_craft 159 = .ok (.iload_n 1, 1) := by decide +kernel
theorem dX10_craft_160 : decode cX10_craft 160 = .ok (.iaload, 1) := by decide +kernel
theorem dX10_craft_161 : decode cX10_craft 161 = .ok (.ireturn, 1) := by decide +kernel
theorem dX10_fair_0 : decode cX10_fair 0 = .ok (.aload_n 0, 1) := by decide +kernel
theorem dX10_fair_1 : decode cX10_fair 1 = .ok (.iconst 0, 1) := by decide +kernel
theorem dX10_fair_2 : decode cX10_fair 2 = .ok (.putfield 147, 3) := by decide +kernel
theorem dX10_fair_5 : decode cX10_fair 5 = .ok (.iconst 0, 1) := by decide +kernel
theorem dX10_fair_6 : decode cX10_fair 6 = .ok (.istore_n 1, 1) := by decide +kernel
theorem dX10_fair_7 : decode cX10_fair 7 = .ok (.iconst 0, 1) := by decide +kernel
theorem dX10_fair_8 : decode cX10_fair 8 = .ok (.istore_n 2, 1) := by decide +kernel
theorem dX10_fair_9 : decode cX10_fair 9 = .ok (.iload_n 2, 1) := by decide +kernel
theorem dX10_fair_10 : decode cX10_fair 10 = .ok (.aload_n 0, 1) := by decide +kernel
theorem dX10_fair_11 : decode cX10_fair 11 = .ok (.getfield 150, 3) := by decide +kernel
theorem dX10_fair_14 : decode cX10_fair 14 = .ok (.if_icmp .ge 126, 3) := by decide +kernel
theorem dX10_fair_17 : decode cX10_fair 17 = .ok (.iconst 0, 1) := by decide +kernel
theorem dX10_fair_18 : decode cX10_fair 18 = .ok (.istore_n 3, 1) := by decide +kernel
theorem dX10_fair_19 : decode cX10_fair 19 = .ok (.iload_n 3, 1) := by decide +kernel
theorem dX10_fair_20 : decode cX10_fair 20 = .ok (.aload_n 0, 1) := by decide +kernel
theorem dX10_fair_21 : decode cX10_fair 21 = .ok (.getfield 150, 3) := by decide +kernel
theorem dX10_fair_24 : decode cX10_fair 24 = .ok (.if_icmp .ge 110, 3) := by decide +kernel
theorem dX10_fair_27 : decode cX10_fair 27 = .ok (.aload_n 0, 1) := by decide +kernel
theorem dX10_fair_28 : decode cX10_fair 28 = .ok (.getfield 7, 3) := by decide +kernel
theorem dX10_fair_31 : decode cX10_fair 31 = .ok (.iload_n 2, 1) := by decide +kernel
theorem dX10_fair_32 : decode cX10_fair 32 = .ok (.iaload, 1) := by decide +kernel
theorem dX10_fair_33 : decode cX10_fair 33 = .ok (.aload_n 0, 1) := by decide +kernel
theorem dX10_fair_34 : decode cX10_fair 34 = .ok (.getfield 7, 3) := by decide +kernel
theorem dX10_fair_37 : decode cX10_fair 37 = .ok (.iload_n 3, 1) := by decide +kernel
theorem dX10_fair_38 : decode cX10_fair 38 = .ok (.iaload, 1) := by decide +kernel
theorem dX10_fair_39 : decode cX10_fair 39 = .ok (.if_icmp .ne 54, 3) := by decide +kernel
theorem dX10_fair_42 : decode cX10_fair 42 = .ok (.aload_n 0, 1) := by decide +kernel
theorem dX10_fair_43 : decode cX10_fair 43 = .ok (.getfield 13, 3) := by decide +kernel
theorem dX10_fair_46 : decode cX10_fair 46 = .ok (.iload_n 2, 1) := by decide +kernel
theorem dX10_fair_47 : decode cX10_fair 47 = .ok (.iaload, 1) := by decide +kernel
theorem dX10_fair_48 : decode cX10_fair 48 = .ok (.aload_n 0, 1) := by decide +kernel
theorem dX10_fair_49 : decode cX10_fair 49 = .ok (.getfield 13, 3) := by decide +kernel
theorem dX10_fair_52 : decode cX10_fair 52 = .ok (.iload_n 3, 1) := by decide +kernel
theorem dX10_fair_53 : decode cX10_fair 53 = .ok (.iaload, 1) := by decide +kernel
theorem dX10_fair_54 : decode cX10_fair 54 = .ok (.if_icmp .ne 39, 3) := by decide +kernel
theorem dX10_fair_57 : decode cX10_fair 57 = .ok (.aload_n 0, 1) := by decide +kernel
theorem dX10_fair_58 : decode cX10_fair 58 = .ok (.getfield 16, 3) := by decide +kernel
theorem dX10_fair_61 : decode cX10_fair 61 = .ok (.iload_n 2, 1) := by decide +kernel
theorem dX10_fair_62 : decode cX10_fair 62 = .ok (.iaload, 1) := by decide +kernel
theorem dX10_fair_63 : decode cX10_fair 63 = .ok (.aload_n 0, 1) := by decide +kernel
theorem dX10_fair_64 : decode cX10_fair 64 = .ok (.getfield 16, 3) := by decide +kernel
theorem dX10_fair_67 : decode cX10_fair 67 = .ok (.iload_n 3, 1) := by decide +kernel
theorem dX10_fair_68 : decode cX10_fair 68 = .ok (.iaload, 1) := by decide +kernel
theorem dX10_fair_69 : decode cX10_fair 69 = .ok (.if_icmp .ne 24, 3) := by decide +kernel
theorem dX10_fair_72 : decode cX10_fair 72 = .ok (.aload_n 0, 1) := by decide +kernel
theorem dX10_fair_73 : decode cX10_fair 73 = .ok (.getfield 35, 3) := by decide +kernel
theorem dX10_fair_76 : decode cX10_fair 76 = .ok (.iload_n 2, 1) := by decide +kernel
theorem dX10_fair_77 : decode cX10_fair 77 = .ok (.iaload, 1) := by decide +kernel
theorem dX10_fair_78 : decode cX10_fair 78 = .ok (.aload_n 0, 1) := by decide +kernel
theorem dX10_fair_79 : decode cX10_fair 79 = .ok (.getfield 35, 3) := by decide +kernel
theorem dX10_fair_82 : decode cX10_fair 82 = .ok (.iload_n 3, 1) := by decide +kernel
theorem dX10_fair_83 : decode cX10_fair 83 = .ok (.iaload, 1) := by decide +kernel
theorem dX10_fair_84 : decode cX10_fair 84 = .ok (.isub, 1) := by decide +kernel
theorem dX10_fair_85 : decode cX10_fair 85 = .ok (.iload_n 1, 1) := by decide +kernel
theorem dX10_fair_86 : decode cX10_fair 86 = .ok (.if_icmp .le 7, 3) := by decide +kernel
theorem dX10_fair_89 : decode cX10_fair 89 = .ok (.iconst 1, 1) := by decide +kernel
theorem dX10_fair_90 : decode cX10_fair 90 = .ok (.goto 4, 3) := by decide +kernel
theorem dX10_fair_93 : decode cX10_fair 93 = .ok (.iconst 0, 1) := by decide +kernel
theorem dX10_fair_94 : decode cX10_fair 94 = .ok (.istore 4, 2) := by decide +kernel
theorem dX10_fair_96 : decode cX10_fair 96 = .ok (.iload 4, 2) := by decide +kernel
theorem dX10_fair_98 : decode cX10_fair 98 = .ok (.ifCond .eq 30, 3) := by decide +kernel
theorem dX10_fair_101 : decode cX10_fair 101 = .ok (.aload_n 0, 1) := by decide +kernel
theorem dX10_fair_102 : decode cX10_fair 102 = .ok (.iload_n 2, 1) := by decide +kernel
theorem dX10_fair_103 : decode cX10_fair 103 = .ok (.invokevirtual 276, 3) := by decide +kernel
theorem dX10_fair_106 : decode cX10_fair 106 = .ok (.aload_n 0, 1) := by decide +kernel
theorem dX10_fair_107 : decode cX10_fair 107 = .ok (.iload_n 3, 1) := by decide +kernel
theorem dX10_fair_108 : decode cX10_fair 108 = .ok (.invokevirtual 276, 3) := by decide +kernel
theorem dX10_fair_111 : decode cX10_fair 111 = .ok (.if_icmp .ne 17, 3) := by decide +kernel
theorem dX10_fair_114 : decode cX10_fair 114 = .ok (.aload_n 0, 1) := by decide +kernel
theorem dX10_fair_115 : decode cX10_fair 115 = .ok (.getfield 35, 3) := by decide +kernel
theorem dX10_fair_118 : decode cX10_fair 118 = .ok (.iload_n 2, 1) := by decide +kernel
theorem dX10_fair_119 : decode cX10_fair 119 = .ok (.iaload, 1) := by decide +kernel
theorem dX10_fair_120 : decode cX10_fair 120 = .ok (.aload_n 0, 1) := by decide +kernel
theorem dX10_fair_121 : decode cX10_fair 121 = .ok (.getfield 35, 3) := by decide +kernel
theorem dX10_fair_124 : decode cX10_fair 124 = .ok (.iload_n 3, 1) := by decide +kernel
theorem dX10_fair_125 : decode cX10_fair 125 = .ok (.iaload, 1) := by decide +kernel
theorem dX10_fair_126 : decode cX10_fair 126 = .ok (.isub, 1) := by decide +kernel
theorem dX10_fair_127 : decode cX10_fair 127 = .ok (.istore_n 1, 1) := by decide +kernel
theorem dX10_fair_128 : decode cX10_fair 128 = .ok (.iinc 3 1, 3) := by decide +kernel
theorem dX10_fair_131 : decode cX10_fair 131 = .ok (.goto (-112), 3) := by decide +kernel
theorem dX10_fair_134 : decode cX10_fair 134 = .ok (.iinc 2 1, 3) := by decide +kernel
theorem dX10_fair_137 : decode cX10_fair 137 = .ok (.goto (-128), 3) := by decide +kernel
theorem dX10_fair_140 : decode cX10_fair 140 = .ok (.iload_n 1, 1) := by decide +kernel
theorem dX10_fair_141 : decode cX10_fair 141 = .ok (.ireturn, 1) := by decide +kernel
theorem dX10_inState_0 : decode cX10_inState 0 = .ok (.iconst 0, 1) := by decide +kernel
theorem dX10_inState_1 : decode cX10_inState 1 = .ok (.istore_n 2, 1) := by decide +kernel
theorem dX10_inState_2 : decode cX10_inState 2 = .ok (.iconst 0, 1) := by decide +kernel
theorem dX10_inState_3 : decode cX10_inState 3 = .ok (.istore_n 3, 1) := by decide +kernel
theorem dX10_inState_4 : decode cX10_inState 4 = .ok (.iload_n 3, 1) := by decide +kernel
theorem dX10_inState_5 : decode cX10_inState 5 = .ok (.aload_n 0, 1) := by decide +kernel
theorem dX10_inState_6 : decode cX10_inState 6 = .ok (.getfield 153, 3) := by decide +kernel
theorem dX10_inState_9 : decode cX10_inState 9 = .ok (.if_icmp .ge 27, 3) := by decide +kernel
theorem dX10_inState_12 : decode cX10_inState 12 = .ok (.iload_n 2, 1) := by decide +kernel
theorem dX10_inState_13 : decode cX10_inState 13 = .ok (.aload_n 0, 1) := by decide +kernel
theorem dX10_inState_14 : decode cX10_inState 14 = .ok (.getfield 74, 3) := by decide +kernel
theorem dX10_inState_17 : decode cX10_inState 17 = .ok (.iload_n 3, 1) := by decide +kernel
theorem dX10_inState_18 : decode cX10_inState 18 = .ok (.iaload, 1) := by decide +kernel
theorem dX10_inState_19 : decode cX10_inState 19 = .ok (.iload_n 1, 1) := by decide +kernel
theorem dX10_inState_20 : decode cX10_inState 20 = .ok (.if_icmp .ne 7, 3) := by decide +kernel
theorem dX10_inState_23 : decode cX10_inState 23 = .ok (.iconst 1, 1) := by decide +kernel
theorem dX10_inState_24 : decode cX10_inState 24 = .ok (.goto 4, 3) := by decide +kernel
theorem dX10_inState_27 : decode cX10_inState 27 = .ok (.iconst 0, 1) := by decide +kernel
theorem dX10_inState_28 : decode cX10_inState 28 = .ok (.iadd, 1) := by decide +kernel
theorem dX10_inState_29 : decode cX10_inState 29 = .ok (.istore_n 2, 1) := by decide +kernel
theorem dX10_inState_30 : decode cX10_inState 30 = .ok (.iinc 3 1, 3) := by decide +kernel
theorem dX10_inState_33 : decode cX10_inState 33 = .ok (.goto (-29), 3) := by decide +kernel
theorem dX10_inState_36 : decode cX10_inState 36 = .ok (.iload_n 2, 1) := by decide +kernel
theorem dX10_inState_37 : decode cX10_inState 37 = .ok (.ireturn, 1) := by decide +kernel
theorem dX10_sum_0 : decode cX10_sum 0 = .ok (.iconst 0, 1) := by decide +kernel
theorem dX10_sum_1 : decode cX10_sum 1 = .ok (.istore_n 2, 1) := by decide +kernel
theorem dX10_sum_2 : decode cX10_sum 2 = .ok (.iconst 0, 1) := by decide +kernel
theorem dX10_sum_3 : decode cX10_sum 3 = .ok (.istore_n 3, 1) := by decide +kernel
theorem dX10_sum_4 : decode cX10_sum 4 = .ok (.iload_n 3, 1) := by decide +kernel
theorem dX10_sum_5 : decode cX10_sum 5 = .ok (.iload_n 1, 1) := by decide +kernel
theorem dX10_sum_6 : decode cX10_sum 6 = .ok (.if_icmp .ge 15, 3) := by decide +kernel
theorem dX10_sum_9 : decode cX10_sum 9 = .ok (.iload_n 2, 1) := by decide +kernel
theorem dX10_sum_10 : decode cX10_sum 10 = .ok (.aload_n 0, 1) := by decide +kernel
theorem dX10_sum_11 : decode cX10_sum 11 = .ok (.iload_n 3, 1) := by decide +kernel
theorem dX10_sum_12 : decode cX10_sum 12 = .ok (.iaload, 1) := by decide +kernel
theorem dX10_sum_13 : decode cX10_sum 13 = .ok (.iadd, 1) := by decide +kernel
theorem dX10_sum_14 : decode cX10_sum 14 = .ok (.istore_n 2, 1) := by decide +kernel
theorem dX10_sum_15 : decode cX10_sum 15 = .ok (.iinc 3 1, 3) := by decide +kernel
theorem dX10_sum_18 : decode cX10_sum 18 = .ok (.goto (-14), 3) := by decide +kernel
theorem dX10_sum_21 : decode cX10_sum 21 = .ok (.iload_n 2, 1) := by decide +kernel
theorem dX10_sum_22 : decode cX10_sum 22 = .ok (.ireturn, 1) := by decide +kernel
theorem dX10_count_0 : decode cX10_count 0 = .ok (.aload_n 0, 1) := by decide +kernel
theorem dX10_count_1 : decode cX10_count 1 = .ok (.iconst 0, 1) := by decide +kernel
theorem dX10_count_2 : decode cX10_count 2 = .ok (.putfield 147, 3) := by decide +kernel
theorem dX10_count_5 : decode cX10_count 5 = .ok (.iload_n 1, 1) := by decide +kernel
theorem dX10_count_6 : decode cX10_count 6 = .ok (.tableswitch 188 0 14 #[74, 79, 84, 89, 94, 100, 106, 112, 118, 130, 142, 147, 159, 171, 183], 74) := by decide +kernel
theorem dX10_count_80 : decode cX10_count 80 = .ok (.aload_n 0, 1) := by decide +kernel
theorem dX10_count_81 : decode cX10_count 81 = .ok (.getfield 196, 3) := by decide +kernel
theorem dX10_count_84 : decode cX10_count 84 = .ok (.ireturn, 1) := by decide +kernel
theorem dX10_count_85 : decode cX10_count 85 = .ok (.aload_n 0, 1) := by decide +kernel
theorem dX10_count_86 : decode cX10_count 86 = .ok (.getfield 150, 3) := by decide +kernel
theorem dX10_count_89 : decode cX10_count 89 = .ok (.ireturn, 1) := by decide +kernel
theorem dX10_count_90 : decode cX10_count 90 = .ok (.aload_n 0, 1) := by decide +kernel
theorem dX10_count_91 : decode cX10_count 91 = .ok (.getfield 153, 3) := by decide +kernel
theorem dX10_count_94 : decode cX10_count 94 = .ok (.ireturn, 1) := by decide +kernel
theorem dX10_count_95 : decode cX10_count 95 = .ok (.aload_n 0, 1) := by decide +kernel
theorem dX10_count_96 : decode cX10_count 96 = .ok (.getfield 172, 3) := by decide +kernel
theorem dX10_count_99 : decode cX10_count 99 = .ok (.ireturn, 1) := by decide +kernel
theorem dX10_count_100 : decode cX10_count 100 = .ok (.aload_n 0, 1) := by decide +kernel
theorem dX10_count_101 : decode cX10_count 101 = .ok (.iconst 0, 1) := by decide +kernel
theorem dX10_count_102 : decode cX10_count 102 = .ok (.invokevirtual 279, 3) := by decide +kernel
theorem dX10_count_105 : decode cX10_count 105 = .ok (.ireturn, 1) := by decide +kernel
theorem dX10_count_106 : decode cX10_count 106 = .ok (.aload_n 0, 1) := by decide +kernel
theorem dX10_count_107 : decode cX10_count 107 = .ok (.iconst 1, 1) := by decide +kernel
theorem dX10_count_108 : decode cX10_count 108 = .ok (.invokevirtual 279, 3) := by decide +kernel
theorem dX10_count_111 : decode cX10_count 111 = .ok (.ireturn, 1) := by decide +kernel
theorem dX10_count_112 : decode cX10_count 112 = .ok (.aload_n 0, 1) := by decide +kernel
theorem dX10_count_113 : decode cX10_count 113 = .ok (.iconst 2, 1) := by decide +kernel
theorem dX10_count_114 : decode cX10_count 114 = .ok (.invokevirtual 279, 3) := by decide +kernel
theorem dX10_count_117 : decode cX10_count 117 = .ok (.ireturn, 1) := by decide +kernel
theorem dX10_count_118 : decode cX10_count 118 = .ok (.aload_n 0, 1) := by decide +kernel
theorem dX10_count_119 : decode cX10_count 119 = .ok (.iconst 3, 1) := by decide +kernel
theorem dX10_count_120 : decode cX10_count 120 = .ok (.invokevirtual 279, 3) := by decide +kernel
theorem dX10_count_123 : decode cX10_count 123 = .ok (.ireturn, 1) := by decide +kernel
theorem dX10_count_124 : decode cX10_count 124 = .ok (.aload_n 0, 1) := by decide +kernel
theorem dX10_count_125 : decode cX10_count 125 = .ok (.getfield 35, 3) := by decide +kernel
theorem dX10_count_128 : decode cX10_count 128 = .ok (.aload_n 0, 1) := by decide +kernel
theorem dX10_count_129 : decode cX10_count 129 = .ok (.getfield 150, 3) := by decide +kernel
theorem dX10_count_132 : decode cX10_count 132 = .ok (.invokestatic 282, 3) := by decide +kernel
theorem dX10_count_135 : decode cX10_count 135 = .ok (.ireturn, 1) := by decide +kernel
theorem dX10_count_136 : decode cX10_count 136 = .ok (.aload_n 0, 1) := by decide +kernel
theorem dX10_count_137 : decode cX10_count 137 = .ok (.getfield 38, 3) := by decide +kernel
theorem dX10_count_140 : decode cX10_count 140 = .ok (.aload_n 0, 1) := by decide +kernel
theorem dX10_count_141 : decode cX10_count 141 = .ok (.getfield 150, 3) := by decide +kernel
theorem dX10_count_144 : decode cX10_count 144 = .ok (.invokestatic 282, 3) := by decide +kernel
theorem dX10_count_147 : decode cX10_count 147 = .ok (.ireturn, 1) := by decide +kernel
theorem dX10_count_148 : decode cX10_count 148 = .ok (.aload_n 0, 1) := by decide +kernel
theorem dX10_count_149 : decode cX10_count 149 = .ok (.getfield 160, 3) := by decide +kernel
theorem dX10_count_152 : decode cX10_count 152 = .ok (.ireturn, 1) := by decide +kernel
theorem dX10_count_153 : decode cX10_count 153 = .ok (.aload_n 0, 1) := by decide +kernel
theorem dX10_count_154 : decode cX10_count 154 = .ok (.getfield 89, 3) := by decide +kernel
theorem dX10_count_157 : decode cX10_count 157 = .ok (.aload_n 0, 1) := by decide +kernel
theorem dX10_count_158 : decode cX10_count 158 = .ok (.getfield 153, 3) := by decide +kernel
theorem dX10_count_161 : decode cX10_count 161 = .ok (.invokestatic 282, 3) := by decide +kernel
theorem dX10_count_164 : decode cX10_count 164 = .ok (.ireturn, 1) := by decide +kernel
theorem dX10_count_165 : decode cX10_count 165 = .ok (.aload_n 0, 1) := by decide +kernel
theorem dX10_count_166 : decode cX10_count 166 = .ok (.getfield 92, 3) := by decide +kernel
theorem dX10_count_169 : decode cX10_count 169 = .ok (.aload_n 0, 1) := by decide +kernel
theorem dX10_count_170 : decode cX10_count 170 = .ok (.getfield 153, 3) := by decide +kernel
theorem dX10_count_173 : decode cX10_count 173 = .ok (.invokestatic 282, 3) := by decide +kernel
theorem dX10_count_176 : decode cX10_count 176 = .ok (.ireturn, 1) := by decide +kernel
theorem dX10_count_177 : decode cX10_count 177 = .ok (.aload_n 0, 1) := by decide +kernel
theorem dX10_count_178 : decode cX10_count 178 = .ok (.getfield 95, 3) := by decide +kernel
theorem dX10_count_181 : decode cX10_count 181 = .ok (.aload_n 0, 1) := by decide +kernel
theorem dX10_count_182 : decode cX10_count 182 = .ok (.getfield 153, 3) := by decide +kernel
theorem dX10_count_185 : decode cX10_count 185 = .ok (.invokestatic 282, 3) := by decide +kernel
theorem dX10_count_188 : decode cX10_count 188 = .ok (.ireturn, 1) := by decide +kernel
theorem dX10_count_189 : decode cX10_count 189 = .ok (.aload_n 0, 1) := by decide +kernel
theorem dX10_count_190 : decode cX10_count 190 = .ok (.getfield 199, 3) := by decide +kernel
theorem dX10_count_193 : decode cX10_count 193 = .ok (.ireturn, 1) := by decide +kernel
theorem dX10_count_194 : decode cX10_count 194 = .ok (.iconst (-1), 1) := by decide +kernel
theorem dX10_count_195 : decode cX10_count 195 = .ok (.ireturn, 1) := by decide +kernel
theorem dJ9_abs_0f7a4_0 : decode cJ9_abs_0f7a4 0 = .ok (.iload_n 0, 1) := by decide +kernel
theorem dJ9_abs_0f7a4_1 : decode cJ9_abs_0f7a4 1 = .ok (.ifCond .ge 8, 3) := by decide +kernel
theorem dJ9_abs_0f7a4_4 : decode cJ9_abs_0f7a4 4 = .ok (.iload_n 0, 1) := by decide +kernel
theorem dJ9_abs_0f7a4_5 : decode cJ9_abs_0f7a4 5 = .ok (.ineg, 1) := by decide +kernel
theorem dJ9_abs_0f7a4_6 : decode cJ9_abs_0f7a4 6 = .ok (.goto 4, 3) := by decide +kernel
theorem dJ9_abs_0f7a4_9 : decode cJ9_abs_0f7a4 9 = .ok (.iload_n 0, 1) := by decide +kernel
theorem dJ9_abs_0f7a4_10 : decode cJ9_abs_0f7a4 10 = .ok (.ireturn, 1) := by decide +kernel
theorem dJ9_max_7cf53_0 : decode cJ9_max_7cf53 0 = .ok (.iload_n 0, 1) := by decide +kernel
theorem dJ9_max_7cf53_1 : decode cJ9_max_7cf53 1 = .ok (.iload_n 1, 1) := by decide +kernel
theorem dJ9_max_7cf53_2 : decode cJ9_max_7cf53 2 = .ok (.if_icmp .lt 7, 3) := by decide +kernel
theorem dJ9_max_7cf53_5 : decode cJ9_max_7cf53 5 = .ok (.iload_n 0, 1) := by decide +kernel
theorem dJ9_max_7cf53_6 : decode cJ9_max_7cf53 6 = .ok (.goto 4, 3) := by decide +kernel
theorem dJ9_max_7cf53_9 : decode cJ9_max_7cf53 9 = .ok (.iload_n 1, 1) := by decide +kernel
theorem dJ9_max_7cf53_10 : decode cJ9_max_7cf53 10 = .ok (.ireturn, 1) := by decide +kernel
theorem dJ9_min_7cf53_0 : decode cJ9_min_7cf53 0 = .ok (.iload_n 0, 1) := by decide +kernel
theorem dJ9_min_7cf53_1 : decode cJ9_min_7cf53 1 = .ok (.iload_n 1, 1) := by decide +kernel
theorem dJ9_min_7cf53_2 : decode cJ9_min_7cf53 2 = .ok (.if_icmp .gt 7, 3) := by decide +kernel
theorem dJ9_min_7cf53_5 : decode cJ9_min_7cf53 5 = .ok (.iload_n 0, 1) := by decide +kernel
theorem dJ9_min_7cf53_6 : decode cJ9_min_7cf53 6 = .ok (.goto 4, 3) := by decide +kernel
theorem dJ9_min_7cf53_9 : decode cJ9_min_7cf53 9 = .ok (.iload_n 1, 1) := by decide +kernel
theorem dJ9_min_7cf53_10 : decode cJ9_min_7cf53 10 = .ok (.ireturn, 1) := by decide +kernel
theorem dJxa1e45_init_da8c8_0 : decode cJxa1e45_init_da8c8 0 = .ok (.aload_n 0, 1) := by decide +kernel
theorem dJxa1e45_init_da8c8_1 : decode cJxa1e45_init_da8c8 1 = .ok (.invokespecial 1, 3) := by decide +kernel
theorem dJxa1e45_init_da8c8_4 : decode cJxa1e45_init_da8c8 4 = .ok (.return_, 1) := by decide +kernel
theorem dJxc12de_init_da8c8_0 : decode cJxc12de_init_da8c8 0 = .ok (.aload_n 0, 1) := by decide +kernel
theorem dJxc12de_init_da8c8_1 : decode cJxc12de_init_da8c8 1 = .ok (.invokespecial 1, 3) := by decide +kernel
theorem dJxc12de_init_da8c8_4 : decode cJxc12de_init_da8c8 4 = .ok (.aload_n 0, 1) := by decide +kernel
theorem dJxc12de_init_da8c8_5 : decode cJxc12de_init_da8c8 5 = .ok (.iconst 0, 1) := by decide +kernel
theorem dJxc12de_init_da8c8_6 : decode cJxc12de_init_da8c8 6 = .ok (.putfield 7, 3) := by decide +kernel
theorem dJxc12de_init_da8c8_9 : decode cJxc12de_init_da8c8 9 = .ok (.return_, 1) := by decide +kernel
theorem dJx4a65c_init_da8c8_0 : decode cJx4a65c_init_da8c8 0 = .ok (.aload_n 0, 1) := by decide +kernel
theorem dJx4a65c_init_da8c8_1 : decode cJx4a65c_init_da8c8 1 = .ok (.invokespecial 1, 3) := by decide +kernel
theorem dJx4a65c_init_da8c8_4 : decode cJx4a65c_init_da8c8 4 = .ok (.aload_n 0, 1) := by decide +kernel
theorem dJx4a65c_init_da8c8_5 : decode cJx4a65c_init_da8c8 5 = .ok (.getstatic 39, 3) := by decide +kernel
theorem dJx4a65c_init_da8c8_8 : decode cJx4a65c_init_da8c8 8 = .ok (.putfield 9, 3) := by decide +kernel
theorem dJx4a65c_init_da8c8_11 : decode cJx4a65c_init_da8c8 11 = .ok (.return_, 1) := by decide +kernel
theorem dJx4a65c_grow_92f84_0 : decode cJx4a65c_grow_92f84 0 = .ok (.aload_n 0, 1) := by decide +kernel
theorem dJx4a65c_grow_92f84_1 : decode cJx4a65c_grow_92f84 1 = .ok (.getfield 9, 3) := by decide +kernel
theorem dJx4a65c_grow_92f84_4 : decode cJx4a65c_grow_92f84 4 = .ok (.arraylength, 1) := by decide +kernel
theorem dJx4a65c_grow_92f84_5 : decode cJx4a65c_grow_92f84 5 = .ok (.istore_n 2, 1) := by decide +kernel
theorem dJx4a65c_grow_92f84_6 : decode cJx4a65c_grow_92f84 6 = .ok (.iload_n 2, 1) := by decide +kernel
theorem dJx4a65c_grow_92f84_7 : decode cJx4a65c_grow_92f84 7 = .ok (.ifCond .gt 13, 3) := by decide +kernel
theorem dJx4a65c_grow_92f84_10 : decode cJx4a65c_grow_92f84 10 = .ok (.aload_n 0, 1) := by decide +kernel
theorem dJx4a65c_grow_92f84_11 : decode cJx4a65c_grow_92f84 11 = .ok (.getfield 9, 3) := by decide +kernel
theorem dJx4a65c_grow_92f84_14 : decode cJx4a65c_grow_92f84 14 = .ok (.getstatic 39, 3) := by decide +kernel
theorem dJx4a65c_grow_92f84_17 : decode cJx4a65c_grow_92f84 17 = .ok (.if_acmp .eq 28, 3) := by decide +kernel
theorem dJx4a65c_grow_92f84_20 : decode cJx4a65c_grow_92f84 20 = .ok (.iload_n 2, 1) := by decide +kernel
theorem dJx4a65c_grow_92f84_21 : decode cJx4a65c_grow_92f84 21 = .ok (.iload_n 1, 1) := by decide +kernel
theorem dJx4a65c_grow_92f84_22 : decode cJx4a65c_grow_92f84 22 = .ok (.iload_n 2, 1) := by decide +kernel
theorem dJx4a65c_grow_92f84_23 : decode cJx4a65c_grow_92f84 23 = .ok (.isub, 1) := by decide +kernel
theorem dJx4a65c_grow_92f84_24 : decode cJx4a65c_grow_92f84 24 = .ok (.iload_n 2, 1) := by decide +kernel
theorem dJx4a65c_grow_92f84_25 : decode cJx4a65c_grow_92f84 25 = .ok (.iconst 1, 1) := by decide +kernel
theorem dJx4a65c_grow_92f84_26 : decode cJx4a65c_grow_92f84 26 = .ok (.ishr, 1) := by decide +kernel
theorem dJx4a65c_grow_92f84_27 : decode cJx4a65c_grow_92f84 27 = .ok (.invokestatic 73, 3) := by decide +kernel
theorem dJx4a65c_grow_92f84_30 : decode cJx4a65c_grow_92f84 30 = .ok (.istore_n 3, 1) := by decide +kernel
theorem dJx4a65c_grow_92f84_31 : decode cJx4a65c_grow_92f84 31 = .ok (.aload_n 0, 1) := by decide +kernel
theorem dJx4a65c_grow_92f84_32 : decode cJx4a65c_grow_92f84 32 = .ok (.aload_n 0, 1) := by decide +kernel
theorem dJx4a65c_grow_92f84_33 : decode cJx4a65c_grow_92f84 33 = .ok (.getfield 9, 3) := by decide +kernel
theorem dJx4a65c_grow_92f84_36 : decode cJx4a65c_grow_92f84 36 = .ok (.iload_n 3, 1) := by decide +kernel
theorem dJx4a65c_grow_92f84_37 : decode cJx4a65c_grow_92f84 37 = .ok (.invokestatic 66, 3) := by decide +kernel
theorem dJx4a65c_grow_92f84_40 : decode cJx4a65c_grow_92f84 40 = .ok (.dup_x1, 1) := by decide +kernel
theorem dJx4a65c_grow_92f84_41 : decode cJx4a65c_grow_92f84 41 = .ok (.putfield 9, 3) := by decide +kernel
theorem dJx4a65c_grow_92f84_44 : decode cJx4a65c_grow_92f84 44 = .ok (.areturn, 1) := by decide +kernel
theorem dJx4a65c_grow_92f84_45 : decode cJx4a65c_grow_92f84 45 = .ok (.aload_n 0, 1) := by decide +kernel
theorem dJx4a65c_grow_92f84_46 : decode cJx4a65c_grow_92f84 46 = .ok (.bipush 10, 2) := by decide +kernel
theorem dJx4a65c_grow_92f84_48 : decode cJx4a65c_grow_92f84 48 = .ok (.iload_n 1, 1) := by decide +kernel
theorem dJx4a65c_grow_92f84_49 : decode cJx4a65c_grow_92f84 49 = .ok (.invokestatic 79, 3) := by decide +kernel
theorem dJx4a65c_grow_92f84_52 : decode cJx4a65c_grow_92f84 52 = .ok (.anewarray 7, 3) := by decide +kernel
theorem dJx4a65c_grow_92f84_55 : decode cJx4a65c_grow_92f84 55 = .ok (.dup_x1, 1) := by decide +kernel
theorem dJx4a65c_grow_92f84_56 : decode cJx4a65c_grow_92f84 56 = .ok (.putfield 9, 3) := by decide +kernel
theorem dJx4a65c_grow_92f84_59 : decode cJx4a65c_grow_92f84 59 = .ok (.areturn, 1) := by decide +kernel
theorem dJx4a65c_grow_d5877_0 : decode cJx4a65c_grow_d5877 0 = .ok (.aload_n 0, 1) := by decide +kernel
theorem dJx4a65c_grow_d5877_1 : decode cJx4a65c_grow_d5877 1 = .ok (.aload_n 0, 1) := by decide +kernel
theorem dJx4a65c_grow_d5877_2 : decode cJx4a65c_grow_d5877 2 = .ok (.getfield 48, 3) := by decide +kernel
theorem dJx4a65c_grow_d5877_5 : decode cJx4a65c_grow_d5877 5 = .ok (.iconst 1, 1) := by decide +kernel
theorem dJx4a65c_grow_d5877_6 : decode cJx4a65c_grow_d5877 6 = .ok (.iadd, 1) := by decide +kernel
theorem dJx4a65c_grow_d5877_7 : decode cJx4a65c_grow_d5877 7 = .ok (.invokevirtual 69, 3) := by decide +kernel
theorem dJx4a65c_grow_d5877_10 : decode cJx4a65c_grow_d5877 10 = .ok (.areturn, 1) := by decide +kernel
theorem dJx4a65c_size_8abf5_0 : decode cJx4a65c_size_8abf5 0 = .ok (.aload_n 0, 1) := by decide +kernel
theorem dJx4a65c_size_8abf5_1 : decode cJx4a65c_size_8abf5 1 = .ok (.getfield 48, 3) := by decide +kernel
theorem dJx4a65c_size_8abf5_4 : decode cJx4a65c_size_8abf5 4 = .ok (.ireturn, 1) := by decide +kernel
theorem dJx4a65c_elementData_915e3_0 : decode cJx4a65c_elementData_915e3 0 = .ok (.aload_n 0, 1) := by decide +kernel
theorem dJx4a65c_elementData_915e3_1 : decode cJx4a65c_elementData_915e3 1 = .ok (.getfield 9, 3) := by decide +kernel
theorem dJx4a65c_elementData_915e3_4 : decode cJx4a65c_elementData_915e3 4 = .ok (.iload_n 1, 1) := by decide +kernel
theorem dJx4a65c_elementData_915e3_5 : decode cJx4a65c_elementData_915e3 5 = .ok (.aaload, 1) := by decide +kernel
theorem dJx4a65c_elementData_915e3_6 : decode cJx4a65c_elementData_915e3 6 = .ok (.areturn, 1) := by decide +kernel
theorem dJx4a65c_get_915e3_0 : decode cJx4a65c_get_915e3 0 = .ok (.iload_n 1, 1) := by decide +kernel
theorem dJx4a65c_get_915e3_1 : decode cJx4a65c_get_915e3 1 = .ok (.aload_n 0, 1) := by decide +kernel
theorem dJx4a65c_get_915e3_2 : decode cJx4a65c_get_915e3 2 = .ok (.getfield 48, 3) := by decide +kernel
theorem dJx4a65c_get_915e3_5 : decode cJx4a65c_get_915e3 5 = .ok (.invokestatic 118, 3) := by decide +kernel
theorem dJx4a65c_get_915e3_8 : decode cJx4a65c_get_915e3 8 = .ok (.pop, 1) := by decide +kernel
theorem dJx4a65c_get_915e3_9 : decode cJx4a65c_get_915e3 9 = .ok (.aload_n 0, 1) := by decide +kernel
theorem dJx4a65c_get_915e3_10 : decode cJx4a65c_get_915e3 10 = .ok (.iload_n 1, 1) := by decide +kernel
theorem dJx4a65c_get_915e3_11 : decode cJx4a65c_get_915e3 11 = .ok (.invokevirtual 123, 3) := by decide +kernel
theorem dJx4a65c_get_915e3_14 : decode cJx4a65c_get_915e3 14 = .ok (.areturn, 1) := by decide +kernel
theorem dJx4a65c_add_72be8_0 : decode cJx4a65c_add_72be8 0 = .ok (.iload_n 3, 1) := by decide +kernel
theorem dJx4a65c_add_72be8_1 : decode cJx4a65c_add_72be8 1 = .ok (.aload_n 2, 1) := by decide +kernel
theorem dJx4a65c_add_72be8_2 : decode cJx4a65c_add_72be8 2 = .ok (.arraylength, 1) := by decide +kernel
theorem dJx4a65c_add_72be8_3 : decode cJx4a65c_add_72be8 3 = .ok (.if_icmp .ne 8, 3) := by decide +kernel
theorem dJx4a65c_add_72be8_6 : decode cJx4a65c_add_72be8 6 = .ok (.aload_n 0, 1) := by decide +kernel
theorem dJx4a65c_add_72be8_7 : decode cJx4a65c_add_72be8 7 = .ok (.invokevirtual 129, 3) := by decide +kernel
theorem dJx4a65c_add_72be8_10 : decode cJx4a65c_add_72be8 10 = .ok (.astore_n 2, 1) := by decide +kernel
theorem dJx4a65c_add_72be8_11 : decode cJx4a65c_add_72be8 11 = .ok (.aload_n 2, 1) := by decide +kernel
theorem dJx4a65c_add_72be8_12 : decode cJx4a65c_add_72be8 12 = .ok (.iload_n 3, 1) := by decide +kernel
theorem dJx4a65c_add_72be8_13 : decode cJx4a65c_add_72be8 13 = .ok (.aload_n 1, 1) := by decide +kernel
theorem dJx4a65c_add_72be8_14 : decode cJx4a65c_add_72be8 14 = .ok (.aastore, 1) := by decide +kernel
theorem dJx4a65c_add_72be8_15 : decode cJx4a65c_add_72be8 15 = .ok (.aload_n 0, 1) := by decide +kernel
theorem dJx4a65c_add_72be8_16 : decode cJx4a65c_add_72be8 16 = .ok (.iload_n 3, 1) := by decide +kernel
theorem dJx4a65c_add_72be8_17 : decode cJx4a65c_add_72be8 17 = .ok (.iconst 1, 1) := by decide +kernel
theorem dJx4a65c_add_72be8_18 : decode cJx4a65c_add_72be8 18 = .ok (.iadd, 1) := by decide +kernel
theorem dJx4a65c_add_72be8_19 : decode cJx4a65c_add_72be8 19 = .ok (.putfield 48, 3) := by decide +kernel
theorem dJx4a65c_add_72be8_22 : decode cJx4a65c_add_72be8 22 = .ok (.return_, 1) := by decide +kernel
theorem dJx4a65c_add_9ea2d_0 : decode cJx4a65c_add_9ea2d 0 = .ok (.aload_n 0, 1) := by decide +kernel
theorem dJx4a65c_add_9ea2d_1 : decode cJx4a65c_add_9ea2d 1 = .ok (.dup, 1) := by decide +kernel
theorem dJx4a65c_add_9ea2d_2 : decode cJx4a65c_add_9ea2d 2 = .ok (.getfield 63, 3) := by decide +kernel
theorem dJx4a65c_add_9ea2d_5 : decode cJx4a65c_add_9ea2d 5 = .ok (.iconst 1, 1) := by decide +kernel
theorem dJx4a65c_add_9ea2d_6 : decode cJx4a65c_add_9ea2d 6 = .ok (.iadd, 1) := by decide +kernel
theorem dJx4a65c_add_9ea2d_7 : decode cJx4a65c_add_9ea2d 7 = .ok (.putfield 63, 3) := by decide +kernel
theorem dJx4a65c_add_9ea2d_10 : decode cJx4a65c_add_9ea2d 10 = .ok (.aload_n 0, 1) := by decide +kernel
theorem dJx4a65c_add_9ea2d_11 : decode cJx4a65c_add_9ea2d 11 = .ok (.aload_n 1, 1) := by decide +kernel
theorem dJx4a65c_add_9ea2d_12 : decode cJx4a65c_add_9ea2d 12 = .ok (.aload_n 0, 1) := by decide +kernel
theorem dJx4a65c_add_9ea2d_13 : decode cJx4a65c_add_9ea2d 13 = .ok (.getfield 9, 3) := by decide +kernel
theorem dJx4a65c_add_9ea2d_16 : decode cJx4a65c_add_9ea2d 16 = .ok (.aload_n 0, 1) := by decide +kernel
theorem dJx4a65c_add_9ea2d_17 : decode cJx4a65c_add_9ea2d 17 = .ok (.getfield 48, 3) := by decide +kernel
theorem dJx4a65c_add_9ea2d_20 : decode cJx4a65c_add_9ea2d 20 = .ok (.invokevirtual 131, 3) := by decide +kernel
theorem dJx4a65c_add_9ea2d_23 : decode cJx4a65c_add_9ea2d 23 = .ok (.iconst 1, 1) := by decide +kernel
theorem dJx4a65c_add_9ea2d_24 : decode cJx4a65c_add_9ea2d 24 = .ok (.ireturn, 1) := by decide +kernel
theorem dJx4a65c_add_7a177_0 : decode cJx4a65c_add_7a177 0 = .ok (.aload_n 0, 1) := by decide +kernel
theorem dJx4a65c_add_7a177_1 : decode cJx4a65c_add_7a177 1 = .ok (.iload_n 1, 1) := by decide +kernel
theorem dJx4a65c_add_7a177_2 : decode cJx4a65c_add_7a177 2 = .ok (.invokevirtual 135, 3) := by decide +kernel
theorem dJx4a65c_add_7a177_5 : decode cJx4a65c_add_7a177 5 = .ok (.aload_n 0, 1) := by decide +kernel
theorem dJx4a65c_add_7a177_6 : decode cJx4a65c_add_7a177 6 = .ok (.dup, 1) := by decide +kernel
theorem dJx4a65c_add_7a177_7 : decode cJx4a65c_add_7a177 7 = .ok (.getfield 63, 3) := by decide +kernel
theorem dJx4a65c_add_7a177_10 : decode cJx4a65c_add_7a177 10 = .ok (.iconst 1, 1) := by decide +kernel
theorem dJx4a65c_add_7a177_11 : decode cJx4a65c_add_7a177 11 = .ok (.iadd, 1) := by decide +kernel
theorem dJx4a65c_add_7a177_12 : decode cJx4a65c_add_7a177 12 = .ok (.putfield 63, 3) := by decide +kernel
theorem dJx4a65c_add_7a177_15 : decode cJx4a65c_add_7a177 15 = .ok (.aload_n 0, 1) := by decide +kernel
theorem dJx4a65c_add_7a177_16 : decode cJx4a65c_add_7a177 16 = .ok (.getfield 48, 3) := by decide +kernel
theorem dJx4a65c_add_7a177_19 : decode cJx4a65c_add_7a177 19 = .ok (.dup, 1) := by decide +kernel
theorem dJx4a65c_add_7a177_20 : decode cJx4a65c_add_7a177 20 = .ok (.istore_n 3, 1) := by decide +kernel
theorem dJx4a65c_add_7a177_21 : decode cJx4a65c_add_7a177 21 = .ok (.aload_n 0, 1) := by decide +kernel
theorem dJx4a65c_add_7a177_22 : decode cJx4a65c_add_7a177 22 = .ok (.getfield 9, 3) := by decide +kernel
theorem dJx4a65c_add_7a177_25 : decode cJx4a65c_add_7a177 25 = .ok (.dup, 1) := by decide +kernel
theorem dJx4a65c_add_7a177_26 : decode cJx4a65c_add_7a177 26 = .ok (.astore 4, 2) := by decide +kernel
theorem dJx4a65c_add_7a177_28 : decode cJx4a65c_add_7a177 28 = .ok (.arraylength, 1) := by decide +kernel
theorem dJx4a65c_add_7a177_29 : decode cJx4a65c_add_7a177 29 = .ok (.if_icmp .ne 9, 3) := by decide +kernel
theorem dJx4a65c_add_7a177_32 : decode cJx4a65c_add_7a177 32 = .ok (.aload_n 0, 1) := by decide +kernel
theorem dJx4a65c_add_7a177_33 : decode cJx4a65c_add_7a177 33 = .ok (.invokevirtual 129, 3) := by decide +kernel
theorem dJx4a65c_add_7a177_36 : decode cJx4a65c_add_7a177 36 = .ok (.astore 4, 2) := by decide +kernel
theorem dJx4a65c_add_7a177_38 : decode cJx4a65c_add_7a177 38 = .ok (.aload 4, 2) := by decide +kernel
theorem dJx4a65c_add_7a177_40 : decode cJx4a65c_add_7a177 40 = .ok (.iload_n 1, 1) := by decide +kernel
theorem dJx4a65c_add_7a177_41 : decode cJx4a65c_add_7a177 41 = .ok (.aload 4, 2) := by decide +kernel
theorem dJx4a65c_add_7a177_43 : decode cJx4a65c_add_7a177 43 = .ok (.iload_n 1, 1) := by decide +kernel
theorem dJx4a65c_add_7a177_44 : decode cJx4a65c_add_7a177 44 = .ok (.iconst 1, 1) := by decide +kernel
theorem dJx4a65c_add_7a177_45 : decode cJx4a65c_add_7a177 45 = .ok (.iadd, 1) := by decide +kernel
theorem dJx4a65c_add_7a177_46 : decode cJx4a65c_add_7a177 46 = .ok (.iload_n 3, 1) := by decide +kernel
theorem dJx4a65c_add_7a177_47 : decode cJx4a65c_add_7a177 47 = .ok (.iload_n 1, 1) := by decide +kernel
theorem dJx4a65c_add_7a177_48 : decode cJx4a65c_add_7a177 48 = .ok (.isub, 1) := by decide +kernel
theorem dJx4a65c_add_7a177_49 : decode cJx4a65c_add_7a177 49 = .ok (.invokestatic 112, 3) := by decide +kernel
theorem dJx4a65c_add_7a177_52 : decode cJx4a65c_add_7a177 52 = .ok (.aload 4, 2) := by decide +kernel
theorem dJx4a65c_add_7a177_54 : decode cJx4a65c_add_7a177 54 = .ok (.iload_n 1, 1) := by decide +kernel
theorem dJx4a65c_add_7a177_55 : decode cJx4a65c_add_7a177 55 = .ok (.aload_n 2, 1) := by decide +kernel
theorem dJx4a65c_add_7a177_56 : decode cJx4a65c_add_7a177 56 = .ok (.aastore, 1) := by decide +kernel
theorem dJx4a65c_add_7a177_57 : decode cJx4a65c_add_7a177 57 = .ok (.aload_n 0, 1) := by decide +kernel
theorem dJx4a65c_add_7a177_58 : decode cJx4a65c_add_7a177 58 = .ok (.iload_n 3, 1) := by decide +kernel
theorem dJx4a65c_add_7a177_59 : decode cJx4a65c_add_7a177 59 = .ok (.iconst 1, 1) := by decide +kernel
theorem dJx4a65c_add_7a177_60 : decode cJx4a65c_add_7a177 60 = .ok (.iadd, 1) := by decide +kernel
theorem dJx4a65c_add_7a177_61 : decode cJx4a65c_add_7a177 61 = .ok (.putfield 48, 3) := by decide +kernel
theorem dJx4a65c_add_7a177_64 : decode cJx4a65c_add_7a177 64 = .ok (.return_, 1) := by decide +kernel
theorem dJx4a65c_remove_915e3_0 : decode cJx4a65c_remove_915e3 0 = .ok (.iload_n 1, 1) := by decide +kernel
theorem dJx4a65c_remove_915e3_1 : decode cJx4a65c_remove_915e3 1 = .ok (.aload_n 0, 1) := by decide +kernel
theorem dJx4a65c_remove_915e3_2 : decode cJx4a65c_remove_915e3 2 = .ok (.getfield 48, 3) := by decide +kernel
theorem dJx4a65c_remove_915e3_5 : decode cJx4a65c_remove_915e3 5 = .ok (.invokestatic 118, 3) := by decide +kernel
theorem dJx4a65c_remove_915e3_8 : decode cJx4a65c_remove_915e3 8 = .ok (.pop, 1) := by decide +kernel
theorem dJx4a65c_remove_915e3_9 : decode cJx4a65c_remove_915e3 9 = .ok (.aload_n 0, 1) := by decide +kernel
theorem dJx4a65c_remove_915e3_10 : decode cJx4a65c_remove_915e3 10 = .ok (.getfield 9, 3) := by decide +kernel
theorem dJx4a65c_remove_915e3_13 : decode cJx4a65c_remove_915e3 13 = .ok (.astore_n 2, 1) := by decide +kernel
theorem dJx4a65c_remove_915e3_14 : decode cJx4a65c_remove_915e3 14 = .ok (.aload_n 2, 1) := by decide +kernel
theorem dJx4a65c_remove_915e3_15 : decode cJx4a65c_remove_915e3 15 = .ok (.iload_n 1, 1) := by decide +kernel
theorem dJx4a65c_remove_915e3_16 : decode cJx4a65c_remove_915e3 16 = .ok (.aaload, 1) := by decide +kernel
theorem dJx4a65c_remove_915e3_17 : decode cJx4a65c_remove_915e3 17 = .ok (.astore_n 3, 1) := by decide +kernel
theorem dJx4a65c_remove_915e3_18 : decode cJx4a65c_remove_915e3 18 = .ok (.aload_n 0, 1) := by decide +kernel
theorem dJx4a65c_remove_915e3_19 : decode cJx4a65c_remove_915e3 19 = .ok (.aload_n 2, 1) := by decide +kernel
theorem dJx4a65c_remove_915e3_20 : decode cJx4a65c_remove_915e3 20 = .ok (.iload_n 1, 1) := by decide +kernel
theorem dJx4a65c_remove_915e3_21 : decode cJx4a65c_remove_915e3 21 = .ok (.invokevirtual 144, 3) := by decide +kernel
theorem dJx4a65c_remove_915e3_24 : decode cJx4a65c_remove_915e3 24 = .ok (.aload_n 3, 1) := by decide +kernel
theorem dJx4a65c_remove_915e3_25 : decode cJx4a65c_remove_915e3 25 = .ok (.areturn, 1) := by decide +kernel
theorem dJx4a65c_fastRemove_b59b0_0 : decode cJx4a65c_fastRemove_b59b0 0 = .ok (.aload_n 0, 1) := by decide +kernel
theorem dJx4a65c_fastRemove_b59b0_1 : decode cJx4a65c_fastRemove_b59b0 1 = .ok (.dup, 1) := by decide +kernel
theorem dJx4a65c_fastRemove_b59b0_2 : decode cJx4a65c_fastRemove_b59b0 2 = .ok (.getfield 63, 3) := by decide +kernel
theorem dJx4a65c_fastRemove_b59b0_5 : decode cJx4a65c_fastRemove_b59b0 5 = .ok (.iconst 1, 1) := by decide +kernel
theorem dJx4a65c_fastRemove_b59b0_6 : decode cJx4a65c_fastRemove_b59b0 6 = .ok (.iadd, 1) := by decide +kernel
theorem dJx4a65c_fastRemove_b59b0_7 : decode cJx4a65c_fastRemove_b59b0 7 = .ok (.putfield 63, 3) := by decide +kernel
theorem dJx4a65c_fastRemove_b59b0_10 : decode cJx4a65c_fastRemove_b59b0 10 = .ok (.aload_n 0, 1) := by decide +kernel
theorem dJx4a65c_fastRemove_b59b0_11 : decode cJx4a65c_fastRemove_b59b0 11 = .ok (.getfield 48, 3) := by decide +kernel
theorem dJx4a65c_fastRemove_b59b0_14 : decode cJx4a65c_fastRemove_b59b0 14 = .ok (.iconst 1, 1) := by decide +kernel
theorem dJx4a65c_fastRemove_b59b0_15 : decode cJx4a65c_fastRemove_b59b0 15 = .ok (.isub, 1) := by decide +kernel
theorem dJx4a65c_fastRemove_b59b0_16 : decode cJx4a65c_fastRemove_b59b0 16 = .ok (.dup, 1) := by decide +kernel
theorem dJx4a65c_fastRemove_b59b0_17 : decode cJx4a65c_fastRemove_b59b0 17 = .ok (.istore_n 3, 1) := by decide +kernel
theorem dJx4a65c_fastRemove_b59b0_18 : decode cJx4a65c_fastRemove_b59b0 18 = .ok (.iload_n 2, 1) := by decide +kernel
theorem dJx4a65c_fastRemove_b59b0_19 : decode cJx4a65c_fastRemove_b59b0 19 = .ok (.if_icmp .le 15, 3) := by decide +kernel
theorem dJx4a65c_fastRemove_b59b0_22 : decode cJx4a65c_fastRemove_b59b0 22 = .ok (.aload_n 1, 1) := by decide +kernel
theorem dJx4a65c_fastRemove_b59b0_23 : decode cJx4a65c_fastRemove_b59b0 23 = .ok (.iload_n 2, 1) := by decide +kernel
theorem dJx4a65c_fastRemove_b59b0_24 : decode cJx4a65c_fastRemove_b59b0 24 = .ok (.iconst 1, 1) := by decide +kernel
theorem dJx4a65c_fastRemove_b59b0_25 : decode cJx4a65c_fastRemove_b59b0 25 = .ok (.iadd, 1) := by decide +kernel
theorem dJx4a65c_fastRemove_b59b0_26 : decode cJx4a65c_fastRemove_b59b0 26 = .ok (.aload_n 1, 1) := by decide +kernel
theorem dJx4a65c_fastRemove_b59b0_27 : decode cJx4a65c_fastRemove_b59b0 27 = .ok (.iload_n 2, 1) := by decide +kernel
theorem dJx4a65c_fastRemove_b59b0_28 : decode cJx4a65c_fastRemove_b59b0 28 = .ok (.iload_n 3, 1) := by decide +kernel
theorem dJx4a65c_fastRemove_b59b0_29 : decode cJx4a65c_fastRemove_b59b0 29 = .ok (.iload_n 2, 1) := by decide +kernel
theorem dJx4a65c_fastRemove_b59b0_30 : decode cJx4a65c_fastRemove_b59b0 30 = .ok (.isub, 1) := by decide +kernel
theorem dJx4a65c_fastRemove_b59b0_31 : decode cJx4a65c_fastRemove_b59b0 31 = .ok (.invokestatic 112, 3) := by decide +kernel
theorem dJx4a65c_fastRemove_b59b0_34 : decode cJx4a65c_fastRemove_b59b0 34 = .ok (.aload_n 1, 1) := by decide +kernel
theorem dJx4a65c_fastRemove_b59b0_35 : decode cJx4a65c_fastRemove_b59b0 35 = .ok (.aload_n 0, 1) := by decide +kernel
theorem dJx4a65c_fastRemove_b59b0_36 : decode cJx4a65c_fastRemove_b59b0 36 = .ok (.iload_n 3, 1) := by decide +kernel
theorem dJx4a65c_fastRemove_b59b0_37 : decode cJx4a65c_fastRemove_b59b0 37 = .ok (.dup_x1, 1) := by decide +kernel
theorem dJx4a65c_fastRemove_b59b0_38 : decode cJx4a65c_fastRemove_b59b0 38 = .ok (.putfield 48, 3) := by decide +kernel
theorem dJx4a65c_fastRemove_b59b0_41 : decode cJx4a65c_fastRemove_b59b0 41 = .ok (.aconst_null, 1) := by decide +kernel
theorem dJx4a65c_fastRemove_b59b0_42 : decode cJx4a65c_fastRemove_b59b0 42 = .ok (.aastore, 1) := by decide +kernel
theorem dJx4a65c_fastRemove_b59b0_43 : decode cJx4a65c_fastRemove_b59b0 43 = .ok (.return_, 1) := by decide +kernel
theorem dJx4a65c_clear_da8c8_0 : decode cJx4a65c_clear_da8c8 0 = .ok (.aload_n 0, 1) := by decide +kernel
theorem dJx4a65c_clear_da8c8_1 : decode cJx4a65c_clear_da8c8 1 = .ok (.dup, 1) := by decide +kernel
theorem dJx4a65c_clear_da8c8_2 : decode cJx4a65c_clear_da8c8 2 = .ok (.getfield 63, 3) := by decide +kernel
theorem dJx4a65c_clear_da8c8_5 : decode cJx4a65c_clear_da8c8 5 = .ok (.iconst 1, 1) := by decide +kernel
theorem dJx4a65c_clear_da8c8_6 : decode cJx4a65c_clear_da8c8 6 = .ok (.iadd, 1) := by decide +kernel
theorem dJx4a65c_clear_da8c8_7 : decode cJx4a65c_clear_da8c8 7 = .ok (.putfield 63, 3) := by decide +kernel
theorem dJx4a65c_clear_da8c8_10 : decode cJx4a65c_clear_da8c8 10 = .ok (.aload_n 0, 1) := by decide +kernel
theorem dJx4a65c_clear_da8c8_11 : decode cJx4a65c_clear_da8c8 11 = .ok (.getfield 9, 3) := by decide +kernel
theorem dJx4a65c_clear_da8c8_14 : decode cJx4a65c_clear_da8c8 14 = .ok (.astore_n 1, 1) := by decide +kernel
theorem dJx4a65c_clear_da8c8_15 : decode cJx4a65c_clear_da8c8 15 = .ok (.aload_n 0, 1) := by decide +kernel
theorem dJx4a65c_clear_da8c8_16 : decode cJx4a65c_clear_da8c8 16 = .ok (.getfield 48, 3) := by decide +kernel
theorem dJx4a65c_clear_da8c8_19 : decode cJx4a65c_clear_da8c8 19 = .ok (.istore_n 2, 1) := by decide +kernel
theorem dJx4a65c_clear_da8c8_20 : decode cJx4a65c_clear_da8c8 20 = .ok (.aload_n 0, 1) := by decide +kernel
theorem dJx4a65c_clear_da8c8_21 : decode cJx4a65c_clear_da8c8 21 = .ok (.iconst 0, 1) := by decide +kernel
theorem dJx4a65c_clear_da8c8_22 : decode cJx4a65c_clear_da8c8 22 = .ok (.dup_x1, 1) := by decide +kernel
theorem dJx4a65c_clear_da8c8_23 : decode cJx4a65c_clear_da8c8 23 = .ok (.putfield 48, 3) := by decide +kernel
theorem dJx4a65c_clear_da8c8_26 : decode cJx4a65c_clear_da8c8 26 = .ok (.istore_n 3, 1) := by decide +kernel
theorem dJx4a65c_clear_da8c8_27 : decode cJx4a65c_clear_da8c8 27 = .ok (.iload_n 3, 1) := by decide +kernel
theorem dJx4a65c_clear_da8c8_28 : decode cJx4a65c_clear_da8c8 28 = .ok (.iload_n 2, 1) := by decide +kernel
theorem dJx4a65c_clear_da8c8_29 : decode cJx4a65c_clear_da8c8 29 = .ok (.if_icmp .ge 13, 3) := by decide +kernel
theorem dJx4a65c_clear_da8c8_32 : decode cJx4a65c_clear_da8c8 32 = .ok (.aload_n 1, 1) := by decide +kernel
theorem dJx4a65c_clear_da8c8_33 : decode cJx4a65c_clear_da8c8 33 = .ok (.iload_n 3, 1) := by decide +kernel
theorem dJx4a65c_clear_da8c8_34 : decode cJx4a65c_clear_da8c8 34 = .ok (.aconst_null, 1) := by decide +kernel
theorem dJx4a65c_clear_da8c8_35 : decode cJx4a65c_clear_da8c8 35 = .ok (.aastore, 1) := by decide +kernel
theorem dJx4a65c_clear_da8c8_36 : decode cJx4a65c_clear_da8c8 36 = .ok (.iinc 3 1, 3) := by decide +kernel
theorem dJx4a65c_clear_da8c8_39 : decode cJx4a65c_clear_da8c8 39 = .ok (.goto (-12), 3) := by decide +kernel
theorem dJx4a65c_clear_da8c8_42 : decode cJx4a65c_clear_da8c8 42 = .ok (.return_, 1) := by decide +kernel
theorem dJx4a65c_rangeCheckForAdd_d00df_0 : decode cJx4a65c_rangeCheckForAdd_d00df 0 = .ok (.iload_n 1, 1) := by decide +kernel
theorem dJx4a65c_rangeCheckForAdd_d00df_1 : decode cJx4a65c_rangeCheckForAdd_d00df 1 = .ok (.aload_n 0, 1) := by decide +kernel
theorem dJx4a65c_rangeCheckForAdd_d00df_2 : decode cJx4a65c_rangeCheckForAdd_d00df 2 = .ok (.getfield 48, 3) := by decide +kernel
theorem dJx4a65c_rangeCheckForAdd_d00df_5 : decode cJx4a65c_rangeCheckForAdd_d00df 5 = .ok (.if_icmp .gt 7, 3) := by decide +kernel
theorem dJx4a65c_rangeCheckForAdd_d00df_8 : decode cJx4a65c_rangeCheckForAdd_d00df 8 = .ok (.iload_n 1, 1) := by decide +kernel
theorem dJx4a65c_rangeCheckForAdd_d00df_9 : decode cJx4a65c_rangeCheckForAdd_d00df 9 = .ok (.ifCond .ge 16, 3) := by decide +kernel
theorem dJx4a65c_rangeCheckForAdd_d00df_12 : decode cJx4a65c_rangeCheckForAdd_d00df 12 = .ok (.new 187, 3) := by decide +kernel
theorem dJx4a65c_rangeCheckForAdd_d00df_15 : decode cJx4a65c_rangeCheckForAdd_d00df 15 = .ok (.dup, 1) := by decide +kernel
theorem dJx4a65c_rangeCheckForAdd_d00df_16 : decode cJx4a65c_rangeCheckForAdd_d00df 16 = .ok (.aload_n 0, 1) := by decide +kernel
theorem dJx4a65c_rangeCheckForAdd_d00df_17 : decode cJx4a65c_rangeCheckForAdd_d00df 17 = .ok (.iload_n 1, 1) := by decide +kernel
theorem dJx4a65c_rangeCheckForAdd_d00df_18 : decode cJx4a65c_rangeCheckForAdd_d00df 18 = .ok (.invokevirtual 198, 3) := by decide +kernel
theorem dJx4a65c_rangeCheckForAdd_d00df_21 : decode cJx4a65c_rangeCheckForAdd_d00df 21 = .ok (.invokespecial 193, 3) := by decide +kernel
theorem dJx4a65c_rangeCheckForAdd_d00df_24 : decode cJx4a65c_rangeCheckForAdd_d00df 24 = .ok (.athrow, 1) := by decide +kernel
theorem dJx4a65c_rangeCheckForAdd_d00df_25 : decode cJx4a65c_rangeCheckForAdd_d00df 25 = .ok (.return_, 1) := by decide +kernel
theorem dJ7_copyOf_1904c_0 : decode cJ7_copyOf_1904c 0 = .ok (.aload_n 0, 1) := by decide +kernel
theorem dJ7_copyOf_1904c_1 : decode cJ7_copyOf_1904c 1 = .ok (.iload_n 1, 1) := by decide +kernel
theorem dJ7_copyOf_1904c_2 : decode cJ7_copyOf_1904c 2 = .ok (.aload_n 0, 1) := by decide +kernel
theorem dJ7_copyOf_1904c_3 : decode cJ7_copyOf_1904c 3 = .ok (.invokevirtual 86, 3) := by decide +kernel
theorem dJ7_copyOf_1904c_6 : decode cJ7_copyOf_1904c 6 = .ok (.invokestatic 300, 3) := by decide +kernel
theorem dJ7_copyOf_1904c_9 : decode cJ7_copyOf_1904c 9 = .ok (.areturn, 1) := by decide +kernel
theorem dJ7_copyOf_6403c_0 : decode cJ7_copyOf_6403c 0 = .ok (.aload_n 2, 1) := by decide +kernel
theorem dJ7_copyOf_6403c_1 : decode cJ7_copyOf_6403c 1 = .ok (.ldc 110, 2) := by decide +kernel
theorem dJ7_copyOf_6403c_3 : decode cJ7_copyOf_6403c 3 = .ok (.if_acmp .ne 10, 3) := by decide +kernel
theorem dJ7_copyOf_6403c_6 : decode cJ7_copyOf_6403c 6 = .ok (.iload_n 1, 1) := by decide +kernel
theorem dJ7_copyOf_6403c_7 : decode cJ7_copyOf_6403c 7 = .ok (.anewarray 2, 3) := by decide +kernel
theorem dJ7_copyOf_6403c_10 : decode cJ7_copyOf_6403c 10 = .ok (.goto 14, 3) := by decide +kernel
theorem dJ7_copyOf_6403c_13 : decode cJ7_copyOf_6403c 13 = .ok (.aload_n 2, 1) := by decide +kernel
theorem dJ7_copyOf_6403c_14 : decode cJ7_copyOf_6403c 14 = .ok (.invokevirtual 90, 3) := by decide +kernel
theorem dJ7_copyOf_6403c_17 : decode cJ7_copyOf_6403c 17 = .ok (.iload_n 1, 1) := by decide +kernel
theorem dJ7_copyOf_6403c_18 : decode cJ7_copyOf_6403c 18 = .ok (.invokestatic 95, 3) := by decide +kernel
theorem dJ7_copyOf_6403c_21 : decode cJ7_copyOf_6403c 21 = .ok (.checkcast 110, 3) := by decide +kernel
theorem dJ7_copyOf_6403c_24 : decode cJ7_copyOf_6403c 24 = .ok (.astore_n 3, 1) := by decide +kernel
theorem dJ7_copyOf_6403c_25 : decode cJ7_copyOf_6403c 25 = .ok (.aload_n 0, 1) := by decide +kernel
theorem dJ7_copyOf_6403c_26 : decode cJ7_copyOf_6403c 26 = .ok (.iconst 0, 1) := by decide +kernel
theorem dJ7_copyOf_6403c_27 : decode cJ7_copyOf_6403c 27 = .ok (.aload_n 3, 1) := by decide +kernel
theorem dJ7_copyOf_6403c_28 : decode cJ7_copyOf_6403c 28 = .ok (.iconst 0, 1) := by decide +kernel
theorem dJ7_copyOf_6403c_29 : decode cJ7_copyOf_6403c 29 = .ok (.aload_n 0, 1) := by decide +kernel
theorem dJ7_copyOf_6403c_30 : decode cJ7_copyOf_6403c 30 = .ok (.arraylength, 1) := by decide +kernel
theorem dJ7_copyOf_6403c_31 : decode cJ7_copyOf_6403c 31 = .ok (.iload_n 1, 1) := by decide +kernel
theorem dJ7_copyOf_6403c_32 : decode cJ7_copyOf_6403c 32 = .ok (.invokestatic 304, 3) := by decide +kernel
theorem dJ7_copyOf_6403c_35 : decode cJ7_copyOf_6403c 35 = .ok (.invokestatic 150, 3) := by decide +kernel
theorem dJ7_copyOf_6403c_38 : decode cJ7_copyOf_6403c 38 = .ok (.aload_n 3, 1) := by decide +kernel
theorem dJ7_copyOf_6403c_39 : decode cJ7_copyOf_6403c 39 = .ok (.areturn, 1) := by decide +kernel
theorem dJ15_checkIndex_7cf53_0 : decode cJ15_checkIndex_7cf53 0 = .ok (.iload_n 0, 1) := by decide +kernel
theorem dJ15_checkIndex_7cf53_1 : decode cJ15_checkIndex_7cf53 1 = .ok (.iload_n 1, 1) := by decide +kernel
theorem dJ15_checkIndex_7cf53_2 : decode cJ15_checkIndex_7cf53 2 = .ok (.aconst_null, 1) := by decide +kernel
theorem dJ15_checkIndex_7cf53_3 : decode cJ15_checkIndex_7cf53 3 = .ok (.invokestatic 105, 3) := by decide +kernel
theorem dJ15_checkIndex_7cf53_6 : decode cJ15_checkIndex_7cf53 6 = .ok (.ireturn, 1) := by decide +kernel
theorem dJ8_newLength_cabcc_0 : decode cJ8_newLength_cabcc 0 = .ok (.iload_n 0, 1) := by decide +kernel
theorem dJ8_newLength_cabcc_1 : decode cJ8_newLength_cabcc 1 = .ok (.iload_n 1, 1) := by decide +kernel
theorem dJ8_newLength_cabcc_2 : decode cJ8_newLength_cabcc 2 = .ok (.iload_n 2, 1) := by decide +kernel
theorem dJ8_newLength_cabcc_3 : decode cJ8_newLength_cabcc 3 = .ok (.invokestatic 194, 3) := by decide +kernel
theorem dJ8_newLength_cabcc_6 : decode cJ8_newLength_cabcc 6 = .ok (.iadd, 1) := by decide +kernel
theorem dJ8_newLength_cabcc_7 : decode cJ8_newLength_cabcc 7 = .ok (.istore_n 3, 1) := by decide +kernel
theorem dJ8_newLength_cabcc_8 : decode cJ8_newLength_cabcc 8 = .ok (.iconst 0, 1) := by decide +kernel
theorem dJ8_newLength_cabcc_9 : decode cJ8_newLength_cabcc 9 = .ok (.iload_n 3, 1) := by decide +kernel
theorem dJ8_newLength_cabcc_10 : decode cJ8_newLength_cabcc 10 = .ok (.if_icmp .ge 11, 3) := by decide +kernel
theorem dJ8_newLength_cabcc_13 : decode cJ8_newLength_cabcc 13 = .ok (.iload_n 3, 1) := by decide +kernel
theorem dJ8_newLength_cabcc_14 : decode cJ8_newLength_cabcc 14 = .ok (.ldc 200, 2) := by decide +kernel
theorem dJ8_newLength_cabcc_16 : decode cJ8_newLength_cabcc 16 = .ok (.if_icmp .gt 5, 3) := by decide +kernel
theorem dJ8_newLength_cabcc_19 : decode cJ8_newLength_cabcc 19 = .ok (.iload_n 3, 1) := by decide +kernel
theorem dJ8_newLength_cabcc_20 : decode cJ8_newLength_cabcc 20 = .ok (.ireturn, 1) := by decide +kernel
theorem dJ8_newLength_cabcc_21 : decode cJ8_newLength_cabcc 21 = .ok (.iload_n 0, 1) := by decide +kernel
theorem dJ8_newLength_cabcc_22 : decode cJ8_newLength_cabcc 22 = .ok (.iload_n 1, 1) := by decide +kernel
theorem dJ8_newLength_cabcc_23 : decode cJ8_newLength_cabcc 23 = .ok (.invokestatic 201, 3) := by decide +kernel
theorem dJ8_newLength_cabcc_26 : decode cJ8_newLength_cabcc 26 = .ok (.ireturn, 1) := by decide +kernel
theorem dJ3_checkIndex_8e157_0 : decode cJ3_checkIndex_8e157 0 = .ok (.iload_n 0, 1) := by decide +kernel
theorem dJ3_checkIndex_8e157_1 : decode cJ3_checkIndex_8e157 1 = .ok (.ifCond .lt 8, 3) := by decide +kernel
theorem dJ3_checkIndex_8e157_4 : decode cJ3_checkIndex_8e157 4 = .ok (.iload_n 0, 1) := by decide +kernel
theorem dJ3_checkIndex_8e157_5 : decode cJ3_checkIndex_8e157 5 = .ok (.iload_n 1, 1) := by decide +kernel
theorem dJ3_checkIndex_8e157_6 : decode cJ3_checkIndex_8e157 6 = .ok (.if_icmp .lt 10, 3) := by decide +kernel
theorem dJ3_checkIndex_8e157_9 : decode cJ3_checkIndex_8e157 9 = .ok (.aload_n 2, 1) := by decide +kernel
theorem dJ3_checkIndex_8e157_10 : decode cJ3_checkIndex_8e157 10 = .ok (.iload_n 0, 1) := by decide +kernel
theorem dJ3_checkIndex_8e157_11 : decode cJ3_checkIndex_8e157 11 = .ok (.iload_n 1, 1) := by decide +kernel
theorem dJ3_checkIndex_8e157_12 : decode cJ3_checkIndex_8e157 12 = .ok (.invokestatic 95, 3) := by decide +kernel
theorem dJ3_checkIndex_8e157_15 : decode cJ3_checkIndex_8e157 15 = .ok (.athrow, 1) := by decide +kernel
theorem dJ3_checkIndex_8e157_16 : decode cJ3_checkIndex_8e157 16 = .ok (.iload_n 0, 1) := by decide +kernel
theorem dJ3_checkIndex_8e157_17 : decode cJ3_checkIndex_8e157 17 = .ok (.ireturn, 1) := by decide +kernel
theorem dL_pilot_0 : decode cL_pilot 0 = .ok (.aload 4, 2) := by decide +kernel
theorem dL_pilot_2 : decode cL_pilot 2 = .ok (.iconst 0, 1) := by decide +kernel
theorem dL_pilot_3 : decode cL_pilot 3 = .ok (.aload_n 0, 1) := by decide +kernel
theorem dL_pilot_4 : decode cL_pilot 4 = .ok (.iload_n 1, 1) := by decide +kernel
theorem dL_pilot_5 : decode cL_pilot 5 = .ok (.iload_n 2, 1) := by decide +kernel
theorem dL_pilot_6 : decode cL_pilot 6 = .ok (.iload_n 3, 1) := by decide +kernel
theorem dL_pilot_7 : decode cL_pilot 7 = .ok (.invokevirtual 7, 3) := by decide +kernel
theorem dL_pilot_10 : decode cL_pilot 10 = .ok (.i2l, 1) := by decide +kernel
theorem dL_pilot_11 : decode cL_pilot 11 = .ok (.lastore, 1) := by decide +kernel
theorem dL_pilot_12 : decode cL_pilot 12 = .ok (.goto 11, 3) := by decide +kernel
theorem dL_pilot_15 : decode cL_pilot 15 = .ok (.astore 5, 2) := by decide +kernel
theorem dL_pilot_17 : decode cL_pilot 17 = .ok (.iconst 1, 1) := by decide +kernel
theorem dL_pilot_18 : decode cL_pilot 18 = .ok (.ireturn, 1) := by decide +kernel
theorem dL_pilot_19 : decode cL_pilot 19 = .ok (.astore 5, 2) := by decide +kernel
theorem dL_pilot_21 : decode cL_pilot 21 = .ok (.iconst 2, 1) := by decide +kernel
theorem dL_pilot_22 : decode cL_pilot 22 = .ok (.ireturn, 1) := by decide +kernel
theorem dL_pilot_23 : decode cL_pilot 23 = .ok (.iconst 0, 1) := by decide +kernel
theorem dL_pilot_24 : decode cL_pilot 24 = .ok (.ireturn, 1) := by decide +kernel
theorem dL_ship_0 : decode cL_ship 0 = .ok (.aload 7, 2) := by decide +kernel
theorem dL_ship_2 : decode cL_ship 2 = .ok (.iconst 0, 1) := by decide +kernel
theorem dL_ship_3 : decode cL_ship 3 = .ok (.aload_n 0, 1) := by decide +kernel
theorem dL_ship_4 : decode cL_ship 4 = .ok (.iload_n 1, 1) := by decide +kernel
theorem dL_ship_5 : decode cL_ship 5 = .ok (.iload_n 2, 1) := by decide +kernel
theorem dL_ship_6 : decode cL_ship 6 = .ok (.iload_n 3, 1) := by decide +kernel
theorem dL_ship_7 : decode cL_ship 7 = .ok (.iload 4, 2) := by decide +kernel
theorem dL_ship_9 : decode cL_ship 9 = .ok (.iload 5, 2) := by decide +kernel
theorem dL_ship_11 : decode cL_ship 11 = .ok (.iload 6, 2) := by decide +kernel
theorem dL_ship_13 : decode cL_ship 13 = .ok (.invokevirtual 17, 3) := by decide +kernel
theorem dL_ship_16 : decode cL_ship 16 = .ok (.i2l, 1) := by decide +kernel
theorem dL_ship_17 : decode cL_ship 17 = .ok (.lastore, 1) := by decide +kernel
theorem dL_ship_18 : decode cL_ship 18 = .ok (.goto 15, 3) := by decide +kernel
theorem dL_ship_21 : decode cL_ship 21 = .ok (.astore 8, 2) := by decide +kernel
theorem dL_ship_23 : decode cL_ship 23 = .ok (.iconst 1, 1) := by decide +kernel
theorem dL_ship_24 : decode cL_ship 24 = .ok (.ireturn, 1) := by decide +kernel
theorem dL_ship_25 : decode cL_ship 25 = .ok (.astore 8, 2) := by decide +kernel
theorem dL_ship_27 : decode cL_ship 27 = .ok (.iconst 2, 1) := by decide +kernel
theorem dL_ship_28 : decode cL_ship 28 = .ok (.ireturn, 1) := by decide +kernel
theorem dL_ship_29 : decode cL_ship 29 = .ok (.astore 8, 2) := by decide +kernel
theorem dL_ship_31 : decode cL_ship 31 = .ok (.iconst 3, 1) := by decide +kernel
theorem dL_ship_32 : decode cL_ship 32 = .ok (.ireturn, 1) := by decide +kernel
theorem dL_ship_33 : decode cL_ship 33 = .ok (.iconst 0, 1) := by decide +kernel
theorem dL_ship_34 : decode cL_ship 34 = .ok (.ireturn, 1) := by decide +kernel
theorem dL_tide_0 : decode cL_tide 0 = .ok (.aload_n 3, 1) := by decide +kernel
theorem dL_tide_1 : decode cL_tide 1 = .ok (.iconst 0, 1) := by decide +kernel
theorem dL_tide_2 : decode cL_tide 2 = .ok (.aload_n 0, 1) := by decide +kernel
theorem dL_tide_3 : decode cL_tide 3 = .ok (.iload_n 1, 1) := by decide +kernel
theorem dL_tide_4 : decode cL_tide 4 = .ok (.iload_n 2, 1) := by decide +kernel
theorem dL_tide_5 : decode cL_tide 5 = .ok (.invokevirtual 23, 3) := by decide +kernel
theorem dL_tide_8 : decode cL_tide 8 = .ok (.i2l, 1) := by decide +kernel
theorem dL_tide_9 : decode cL_tide 9 = .ok (.lastore, 1) := by decide +kernel
theorem dL_tide_10 : decode cL_tide 10 = .ok (.goto 15, 3) := by decide +kernel
theorem dL_tide_13 : decode cL_tide 13 = .ok (.astore 4, 2) := by decide +kernel
theorem dL_tide_15 : decode cL_tide 15 = .ok (.iconst 1, 1) := by decide +kernel
theorem dL_tide_16 : decode cL_tide 16 = .ok (.ireturn, 1) := by decide +kernel
theorem dL_tide_17 : decode cL_tide 17 = .ok (.astore 4, 2) := by decide +kernel
theorem dL_tide_19 : decode cL_tide 19 = .ok (.iconst 2, 1) := by decide +kernel
theorem dL_tide_20 : decode cL_tide 20 = .ok (.ireturn, 1) := by decide +kernel
theorem dL_tide_21 : decode cL_tide 21 = .ok (.astore 4, 2) := by decide +kernel
