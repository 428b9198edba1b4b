theorem dX9_undo_139 : decode cX9_undo 139 = .ok (.invokevirtual 196, 3) := by decide +kernel
theorem dX9_undo_142 : decode cX9_undo 142 = .ok (.iconst 1, 1) := by decide +kernel
theorem dX9_undo_143 : decode cX9_undo 143 = .ok (.ireturn, 1) := by decide +kernel
theorem dX9_may_0 : decode cX9_may 0 = .ok (.aload_n 0, 1) := by decide +kernel
theorem dX9_may_1 : decode cX9_may 1 = .ok (.iload_n 1, 1) := by decide +kernel
theorem dX9_may_2 : decode cX9_may 2 = .ok (.invokevirtual 182, 3) := by decide +kernel
theorem dX9_may_5 : decode cX9_may 5 = .ok (.astore_n 3, 1) := by decide +kernel
theorem dX9_may_6 : decode cX9_may 6 = .ok (.aload_n 3, 1) := by decide +kernel
theorem dX9_may_7 : decode cX9_may 7 = .ok (.aload_n 0, 1) := by decide +kernel
theorem dX9_may_8 : decode cX9_may 8 = .ok (.iload_n 2, 1) := by decide +kernel
theorem dX9_may_9 : decode cX9_may 9 = .ok (.invokevirtual 217, 3) := by decide +kernel
theorem dX9_may_12 : decode cX9_may 12 = .ok (.invokevirtual 260, 3) := by decide +kernel
theorem dX9_may_15 : decode cX9_may 15 = .ok (.ireturn, 1) := by decide +kernel
theorem dX9_window_0 : decode cX9_window 0 = .ok (.aload_n 0, 1) := by decide +kernel
theorem dX9_window_1 : decode cX9_window 1 = .ok (.getfield 25, 3) := by decide +kernel
theorem dX9_window_4 : decode cX9_window 4 = .ok (.aload_n 0, 1) := by decide +kernel
theorem dX9_window_5 : decode cX9_window 5 = .ok (.iload_n 1, 1) := by decide +kernel
theorem dX9_window_6 : decode cX9_window 6 = .ok (.invokevirtual 217, 3) := by decide +kernel
theorem dX9_window_9 : decode cX9_window 9 = .ok (.getfield 288, 3) := by decide +kernel
theorem dX9_window_12 : decode cX9_window 12 = .ok (.iload_n 2, 1) := by decide +kernel
theorem dX9_window_13 : decode cX9_window 13 = .ok (.invokevirtual 291, 3) := by decide +kernel
theorem dX9_window_16 : decode cX9_window 16 = .ok (.ireturn, 1) := by decide +kernel
theorem dX9_seats_0 : decode cX9_seats 0 = .ok (.iload_n 1, 1) := by decide +kernel
theorem dX9_seats_1 : decode cX9_seats 1 = .ok (.iconst 0, 1) := by decide +kernel
theorem dX9_seats_2 : decode cX9_seats 2 = .ok (.sipush 9599, 3) := by decide +kernel
theorem dX9_seats_5 : decode cX9_seats 5 = .ok (.invokestatic 80, 3) := by decide +kernel
theorem dX9_seats_8 : decode cX9_seats 8 = .ok (.ifCond .ne 5, 3) := by decide +kernel
theorem dX9_seats_11 : decode cX9_seats 11 = .ok (.iconst 0, 1) := by decide +kernel
theorem dX9_seats_12 : decode cX9_seats 12 = .ok (.ireturn, 1) := by decide +kernel
theorem dX9_seats_13 : decode cX9_seats 13 = .ok (.iload_n 2, 1) := by decide +kernel
theorem dX9_seats_14 : decode cX9_seats 14 = .ok (.ifCond .eq 14, 3) := by decide +kernel
theorem dX9_seats_17 : decode cX9_seats 17 = .ok (.aload_n 0, 1) := by decide +kernel
theorem dX9_seats_18 : decode cX9_seats 18 = .ok (.getfield 32, 3) := by decide +kernel
theorem dX9_seats_21 : decode cX9_seats 21 = .ok (.iload_n 1, 1) := by decide +kernel
theorem dX9_seats_22 : decode cX9_seats 22 = .ok (.invokevirtual 295, 3) := by decide +kernel
theorem dX9_seats_25 : decode cX9_seats 25 = .ok (.goto 11, 3) := by decide +kernel
theorem dX9_seats_28 : decode cX9_seats 28 = .ok (.aload_n 0, 1) := by decide +kernel
theorem dX9_seats_29 : decode cX9_seats 29 = .ok (.getfield 32, 3) := by decide +kernel
theorem dX9_seats_32 : decode cX9_seats 32 = .ok (.iload_n 1, 1) := by decide +kernel
theorem dX9_seats_33 : decode cX9_seats 33 = .ok (.invokevirtual 298, 3) := by decide +kernel
theorem dX9_seats_36 : decode cX9_seats 36 = .ok (.ireturn, 1) := by decide +kernel
theorem dX9_list_0 : decode cX9_list 0 = .ok (.aload_n 0, 1) := by decide +kernel
theorem dX9_list_1 : decode cX9_list 1 = .ok (.getfield 46, 3) := by decide +kernel
theorem dX9_list_4 : decode cX9_list 4 = .ok (.iload_n 1, 1) := by decide +kernel
theorem dX9_list_5 : decode cX9_list 5 = .ok (.invokevirtual 301, 3) := by decide +kernel
theorem dX9_list_8 : decode cX9_list 8 = .ok (.invokestatic 304, 3) := by decide +kernel
theorem dX9_list_11 : decode cX9_list 11 = .ok (.ireturn, 1) := by decide +kernel
theorem dX9_asked_0 : decode cX9_asked 0 = .ok (.aload_n 0, 1) := by decide +kernel
theorem dX9_asked_1 : decode cX9_asked 1 = .ok (.getfield 59, 3) := by decide +kernel
theorem dX9_asked_4 : decode cX9_asked 4 = .ok (.iload_n 1, 1) := by decide +kernel
theorem dX9_asked_5 : decode cX9_asked 5 = .ok (.iload_n 2, 1) := by decide +kernel
theorem dX9_asked_6 : decode cX9_asked 6 = .ok (.invokevirtual 308, 3) := by decide +kernel
theorem dX9_asked_9 : decode cX9_asked 9 = .ok (.ireturn, 1) := by decide +kernel
theorem dX9_look_0 : decode cX9_look 0 = .ok (.aload_n 0, 1) := by decide +kernel
theorem dX9_look_1 : decode cX9_look 1 = .ok (.iload_n 1, 1) := by decide +kernel
theorem dX9_look_2 : decode cX9_look 2 = .ok (.invokevirtual 182, 3) := by decide +kernel
theorem dX9_look_5 : decode cX9_look 5 = .ok (.astore_n 3, 1) := by decide +kernel
theorem dX9_look_6 : decode cX9_look 6 = .ok (.iload_n 2, 1) := by decide +kernel
theorem dX9_look_7 : decode cX9_look 7 = .ok (.tableswitch 156 0 10 #[57, 62, 67, 72, 80, 88, 96, 104, 113, 138, 151], 57) := by decide +kernel
theorem dX9_look_64 : decode cX9_look 64 = .ok (.aload_n 3, 1) := by decide +kernel
theorem dX9_look_65 : decode cX9_look 65 = .ok (.getfield 312, 3) := by decide +kernel
theorem dX9_look_68 : decode cX9_look 68 = .ok (.ireturn, 1) := by decide +kernel
theorem dX9_look_69 : decode cX9_look 69 = .ok (.aload_n 3, 1) := by decide +kernel
theorem dX9_look_70 : decode cX9_look 70 = .ok (.getfield 315, 3) := by decide +kernel
theorem dX9_look_73 : decode cX9_look 73 = .ok (.ireturn, 1) := by decide +kernel
theorem dX9_look_74 : decode cX9_look 74 = .ok (.aload_n 3, 1) := by decide +kernel
theorem dX9_look_75 : decode cX9_look 75 = .ok (.getfield 318, 3) := by decide +kernel
theorem dX9_look_78 : decode cX9_look 78 = .ok (.ireturn, 1) := by decide +kernel
theorem dX9_look_79 : decode cX9_look 79 = .ok (.aload_n 3, 1) := by decide +kernel
theorem dX9_look_80 : decode cX9_look 80 = .ok (.getfield 234, 3) := by decide +kernel
theorem dX9_look_83 : decode cX9_look 83 = .ok (.getfield 319, 3) := by decide +kernel
theorem dX9_look_86 : decode cX9_look 86 = .ok (.ireturn, 1) := by decide +kernel
theorem dX9_look_87 : decode cX9_look 87 = .ok (.aload_n 3, 1) := by decide +kernel
theorem dX9_look_88 : decode cX9_look 88 = .ok (.getfield 234, 3) := by decide +kernel
theorem dX9_look_91 : decode cX9_look 91 = .ok (.getfield 322, 3) := by decide +kernel
theorem dX9_look_94 : decode cX9_look 94 = .ok (.ireturn, 1) := by decide +kernel
theorem dX9_look_95 : decode cX9_look 95 = .ok (.aload_n 3, 1) := by decide +kernel
theorem dX9_look_96 : decode cX9_look 96 = .ok (.getfield 234, 3) := by decide +kernel
theorem dX9_look_99 : decode cX9_look 99 = .ok (.getfield 325, 3) := by decide +kernel
theorem dX9_look_102 : decode cX9_look 102 = .ok (.ireturn, 1) := by decide +kernel
theorem dX9_look_103 : decode cX9_look 103 = .ok (.aload_n 3, 1) := by decide +kernel
theorem dX9_look_104 : decode cX9_look 104 = .ok (.getfield 234, 3) := by decide +kernel
theorem dX9_look_107 : decode cX9_look 107 = .ok (.getfield 328, 3) := by decide +kernel
theorem dX9_look_110 : decode cX9_look 110 = .ok (.ireturn, 1) := by decide +kernel
theorem dX9_look_111 : decode cX9_look 111 = .ok (.aload_n 0, 1) := by decide +kernel
theorem dX9_look_112 : decode cX9_look 112 = .ok (.getfield 46, 3) := by decide +kernel
theorem dX9_look_115 : decode cX9_look 115 = .ok (.aload_n 3, 1) := by decide +kernel
theorem dX9_look_116 : decode cX9_look 116 = .ok (.invokevirtual 331, 3) := by decide +kernel
theorem dX9_look_119 : decode cX9_look 119 = .ok (.ireturn, 1) := by decide +kernel
theorem dX9_look_120 : decode cX9_look 120 = .ok (.aload_n 3, 1) := by decide +kernel
theorem dX9_look_121 : decode cX9_look 121 = .ok (.getfield 234, 3) := by decide +kernel
theorem dX9_look_124 : decode cX9_look 124 = .ok (.getfield 334, 3) := by decide +kernel
theorem dX9_look_127 : decode cX9_look 127 = .ok (.ifnonnull 7, 3) := by decide +kernel
theorem dX9_look_130 : decode cX9_look 130 = .ok (.iconst (-1), 1) := by decide +kernel
theorem dX9_look_131 : decode cX9_look 131 = .ok (.goto 13, 3) := by decide +kernel
theorem dX9_look_134 : decode cX9_look 134 = .ok (.aload_n 3, 1) := by decide +kernel
theorem dX9_look_135 : decode cX9_look 135 = .ok (.getfield 234, 3) := by decide +kernel
theorem dX9_look_138 : decode cX9_look 138 = .ok (.getfield 334, 3) := by decide +kernel
theorem dX9_look_141 : decode cX9_look 141 = .ok (.getfield 143, 3) := by decide +kernel
theorem dX9_look_144 : decode cX9_look 144 = .ok (.ireturn, 1) := by decide +kernel
theorem dX9_look_145 : decode cX9_look 145 = .ok (.aload_n 3, 1) := by decide +kernel
theorem dX9_look_146 : decode cX9_look 146 = .ok (.getfield 190, 3) := by decide +kernel
theorem dX9_look_149 : decode cX9_look 149 = .ok (.ifCond .eq 7, 3) := by decide +kernel
theorem dX9_look_152 : decode cX9_look 152 = .ok (.iconst 1, 1) := by decide +kernel
theorem dX9_look_153 : decode cX9_look 153 = .ok (.goto 4, 3) := by decide +kernel
theorem dX9_look_156 : decode cX9_look 156 = .ok (.iconst 0, 1) := by decide +kernel
theorem dX9_look_157 : decode cX9_look 157 = .ok (.ireturn, 1) := by decide +kernel
theorem dX9_look_158 : decode cX9_look 158 = .ok (.aload_n 3, 1) := by decide +kernel
theorem dX9_look_159 : decode cX9_look 159 = .ok (.getfield 338, 3) := by decide +kernel
theorem dX9_look_162 : decode cX9_look 162 = .ok (.ireturn, 1) := by decide +kernel
theorem dX9_look_163 : decode cX9_look 163 = .ok (.new 84, 3) := by decide +kernel
theorem dX9_look_166 : decode cX9_look 166 = .ok (.dup, 1) := by decide +kernel
theorem dX9_look_167 : decode cX9_look 167 = .ok (.ldc_w 341, 3) := by decide +kernel
theorem dX9_look_170 : decode cX9_look 170 = .ok (.invokespecial 88, 3) := by decide +kernel
theorem dX9_look_173 : decode cX9_look 173 = .ok (.athrow, 1) := by decide +kernel
theorem dX9_craft_0 : decode cX9_craft 0 = .ok (.aload_n 0, 1) := by decide +kernel
theorem dX9_craft_1 : decode cX9_craft 1 = .ok (.iload_n 1, 1) := by decide +kernel
theorem dX9_craft_2 : decode cX9_craft 2 = .ok (.invokevirtual 217, 3) := by decide +kernel
theorem dX9_craft_5 : decode cX9_craft 5 = .ok (.astore_n 3, 1) := by decide +kernel
theorem dX9_craft_6 : decode cX9_craft 6 = .ok (.iload_n 2, 1) := by decide +kernel
theorem dX9_craft_7 : decode cX9_craft 7 = .ok (.tableswitch 136 0 9 #[53, 61, 69, 80, 91, 102, 110, 118, 126, 131], 53) := by decide +kernel
theorem dX9_craft_60 : decode cX9_craft 60 = .ok (.aload_n 3, 1) := by decide +kernel
theorem dX9_craft_61 : decode cX9_craft 61 = .ok (.getfield 221, 3) := by decide +kernel
theorem dX9_craft_64 : decode cX9_craft 64 = .ok (.getfield 343, 3) := by decide +kernel
theorem dX9_craft_67 : decode cX9_craft 67 = .ok (.ireturn, 1) := by decide +kernel
theorem dX9_craft_68 : decode cX9_craft 68 = .ok (.aload_n 3, 1) := by decide +kernel
theorem dX9_craft_69 : decode cX9_craft 69 = .ok (.getfield 221, 3) := by decide +kernel
theorem dX9_craft_72 : decode cX9_craft 72 = .ok (.getfield 346, 3) := by decide +kernel
theorem dX9_craft_75 : decode cX9_craft 75 = .ok (.ireturn, 1) := by decide +kernel
theorem dX9_craft_76 : decode cX9_craft 76 = .ok (.aload_n 3, 1) := by decide +kernel
theorem dX9_craft_77 : decode cX9_craft 77 = .ok (.getfield 221, 3) := by decide +kernel
theorem dX9_craft_80 : decode cX9_craft 80 = .ok (.getfield 256, 3) := by decide +kernel
theorem dX9_craft_83 : decode cX9_craft 83 = .ok (.invokestatic 304, 3) := by decide +kernel
theorem dX9_craft_86 : decode cX9_craft 86 = .ok (.ireturn, 1) := by decide +kernel
theorem dX9_craft_87 : decode cX9_craft 87 = .ok (.aload_n 3, 1) := by decide +kernel
theorem dX9_craft_88 : decode cX9_craft 88 = .ok (.getfield 221, 3) := by decide +kernel
theorem dX9_craft_91 : decode cX9_craft 91 = .ok (.getfield 349, 3) := by decide +kernel
theorem dX9_craft_94 : decode cX9_craft 94 = .ok (.invokestatic 304, 3) := by decide +kernel
theorem dX9_craft_97 : decode cX9_craft 97 = .ok (.ireturn, 1) := by decide +kernel
theorem dX9_craft_98 : decode cX9_craft 98 = .ok (.aload_n 3, 1) := by decide +kernel
theorem dX9_craft_99 : decode cX9_craft 99 = .ok (.getfield 221, 3) := by decide +kernel
theorem dX9_craft_102 : decode cX9_craft 102 = .ok (.getfield 352, 3) := by decide +kernel
theorem dX9_craft_105 : decode cX9_craft 105 = .ok (.invokestatic 304, 3) := by decide +kernel
theorem dX9_craft_108 : decode cX9_craft 108 = .ok (.ireturn, 1) := by decide +kernel
theorem dX9_craft_109 : decode cX9_craft 109 = .ok (.aload_n 3, 1) := by decide +kernel
theorem dX9_craft_110 : decode cX9_craft 110 = .ok (.getfield 221, 3) := by decide +kernel
theorem dX9_craft_113 : decode cX9_craft 113 = .ok (.getfield 355, 3) := by decide +kernel
theorem dX9_craft_116 : decode cX9_craft 116 = .ok (.ireturn, 1) := by decide +kernel
theorem dX9_craft_117 : decode cX9_craft 117 = .ok (.aload_n 3, 1) := by decide +kernel
theorem dX9_craft_118 : decode cX9_craft 118 = .ok (.getfield 221, 3) := by decide +kernel
theorem dX9_craft_121 : decode cX9_craft 121 = .ok (.getfield 358, 3) := by decide +kernel
theorem dX9_craft_124 : decode cX9_craft 124 = .ok (.ireturn, 1) := by decide +kernel
theorem dX9_craft_125 : decode cX9_craft 125 = .ok (.aload_n 3, 1) := by decide +kernel
theorem dX9_craft_126 : decode cX9_craft 126 = .ok (.getfield 221, 3) := by decide +kernel
theorem dX9_craft_129 : decode cX9_craft 129 = .ok (.getfield 361, 3) := by decide +kernel
theorem dX9_craft_132 : decode cX9_craft 132 = .ok (.ireturn, 1) := by decide +kernel
theorem dX9_craft_133 : decode cX9_craft 133 = .ok (.aload_n 3, 1) := by decide +kernel
theorem dX9_craft_134 : decode cX9_craft 134 = .ok (.getfield 364, 3) := by decide +kernel
theorem dX9_craft_137 : decode cX9_craft 137 = .ok (.ireturn, 1) := by decide +kernel
theorem dX9_craft_138 : decode cX9_craft 138 = .ok (.aload_n 3, 1) := by decide +kernel
theorem dX9_craft_139 : decode cX9_craft 139 = .ok (.getfield 288, 3) := by decide +kernel
theorem dX9_craft_142 : decode cX9_craft 142 = .ok (.ireturn, 1) := by decide +kernel
theorem dX9_craft_143 : decode cX9_craft 143 = .ok (.new 84, 3) := by decide +kernel
theorem dX9_craft_146 : decode cX9_craft 146 = .ok (.dup, 1) := by decide +kernel
theorem dX9_craft_147 : decode cX9_craft 147 = .ok (.ldc_w 341, 3) := by decide +kernel
theorem dX9_craft_150 : decode cX9_craft 150 = .ok (.invokespecial 88, 3) := by decide +kernel
theorem dX9_craft_153 : decode cX9_craft 153 = .ok (.athrow, 1) := by decide +kernel
theorem dX9_fair_0 : decode cX9_fair 0 = .ok (.iconst 0, 1) := by decide +kernel
theorem dX9_fair_1 : decode cX9_fair 1 = .ok (.istore_n 1, 1) := by decide +kernel
theorem dX9_fair_2 : decode cX9_fair 2 = .ok (.iconst 0, 1) := by decide +kernel
theorem dX9_fair_3 : decode cX9_fair 3 = .ok (.istore_n 2, 1) := by decide +kernel
theorem dX9_fair_4 : decode cX9_fair 4 = .ok (.iload_n 2, 1) := by decide +kernel
theorem dX9_fair_5 : decode cX9_fair 5 = .ok (.aload_n 0, 1) := by decide +kernel
theorem dX9_fair_6 : decode cX9_fair 6 = .ok (.getfield 12, 3) := by decide +kernel
theorem dX9_fair_9 : decode cX9_fair 9 = .ok (.invokevirtual 93, 3) := by decide +kernel
theorem dX9_fair_12 : decode cX9_fair 12 = .ok (.if_icmp .ge 105, 3) := by decide +kernel
theorem dX9_fair_15 : decode cX9_fair 15 = .ok (.iload_n 2, 1) := by decide +kernel
theorem dX9_fair_16 : decode cX9_fair 16 = .ok (.iconst 1, 1) := by decide +kernel
theorem dX9_fair_17 : decode cX9_fair 17 = .ok (.iadd, 1) := by decide +kernel
theorem dX9_fair_18 : decode cX9_fair 18 = .ok (.istore_n 3, 1) := by decide +kernel
theorem dX9_fair_19 : decode cX9_fair 19 = .ok (.iload_n 3, 1) := by decide +kernel
theorem dX9_fair_20 : decode cX9_fair 20 = .ok (.aload_n 0, 1) := by decide +kernel
theorem dX9_fair_21 : decode cX9_fair 21 = .ok (.getfield 12, 3) := by decide +kernel
theorem dX9_fair_24 : decode cX9_fair 24 = .ok (.invokevirtual 93, 3) := by decide +kernel
theorem dX9_fair_27 : decode cX9_fair 27 = .ok (.if_icmp .ge 84, 3) := by decide +kernel
theorem dX9_fair_30 : decode cX9_fair 30 = .ok (.aload_n 0, 1) := by decide +kernel
theorem dX9_fair_31 : decode cX9_fair 31 = .ok (.getfield 12, 3) := by decide +kernel
theorem dX9_fair_34 : decode cX9_fair 34 = .ok (.iload_n 2, 1) := by decide +kernel
theorem dX9_fair_35 : decode cX9_fair 35 = .ok (.invokevirtual 268, 3) := by decide +kernel
theorem dX9_fair_38 : decode cX9_fair 38 = .ok (.checkcast 102, 3) := by decide +kernel
theorem dX9_fair_41 : decode cX9_fair 41 = .ok (.aload_n 0, 1) := by decide +kernel
theorem dX9_fair_42 : decode cX9_fair 42 = .ok (.getfield 12, 3) := by decide +kernel
theorem dX9_fair_45 : decode cX9_fair 45 = .ok (.iload_n 3, 1) := by decide +kernel
theorem dX9_fair_46 : decode cX9_fair 46 = .ok (.invokevirtual 268, 3) := by decide +kernel
theorem dX9_fair_49 : decode cX9_fair 49 = .ok (.checkcast 102, 3) := by decide +kernel
theorem dX9_fair_52 : decode cX9_fair 52 = .ok (.invokevirtual 365, 3) := by decide +kernel
theorem dX9_fair_55 : decode cX9_fair 55 = .ok (.ifCond .eq 50, 3) := by decide +kernel
theorem dX9_fair_58 : decode cX9_fair 58 = .ok (.aload_n 0, 1) := by decide +kernel
theorem dX9_fair_59 : decode cX9_fair 59 = .ok (.getfield 12, 3) := by decide +kernel
theorem dX9_fair_62 : decode cX9_fair 62 = .ok (.iload_n 2, 1) := by decide +kernel
theorem dX9_fair_63 : decode cX9_fair 63 = .ok (.invokevirtual 268, 3) := by decide +kernel
theorem dX9_fair_66 : decode cX9_fair 66 = .ok (.checkcast 102, 3) := by decide +kernel
theorem dX9_fair_69 : decode cX9_fair 69 = .ok (.getfield 234, 3) := by decide +kernel
theorem dX9_fair_72 : decode cX9_fair 72 = .ok (.getfield 325, 3) := by decide +kernel
theorem dX9_fair_75 : decode cX9_fair 75 = .ok (.aload_n 0, 1) := by decide +kernel
theorem dX9_fair_76 : decode cX9_fair 76 = .ok (.getfield 12, 3) := by decide +kernel
theorem dX9_fair_79 : decode cX9_fair 79 = .ok (.iload_n 3, 1) := by decide +kernel
theorem dX9_fair_80 : decode cX9_fair 80 = .ok (.invokevirtual 268, 3) := by decide +kernel
theorem dX9_fair_83 : decode cX9_fair 83 = .ok (.checkcast 102, 3) := by decide +kernel
theorem dX9_fair_86 : decode cX9_fair 86 = .ok (.getfield 234, 3) := by decide +kernel
theorem dX9_fair_89 : decode cX9_fair 89 = .ok (.getfield 325, 3) := by decide +kernel
theorem dX9_fair_92 : decode cX9_fair 92 = .ok (.isub, 1) := by decide +kernel
theorem dX9_fair_93 : decode cX9_fair 93 = .ok (.istore 4, 2) := by decide +kernel
theorem dX9_fair_95 : decode cX9_fair 95 = .ok (.iload_n 1, 1) := by decide +kernel
theorem dX9_fair_96 : decode cX9_fair 96 = .ok (.iload 4, 2) := by decide +kernel
theorem dX9_fair_98 : decode cX9_fair 98 = .ok (.invokestatic 369, 3) := by decide +kernel
theorem dX9_fair_101 : decode cX9_fair 101 = .ok (.invokestatic 374, 3) := by decide +kernel
theorem dX9_fair_104 : decode cX9_fair 104 = .ok (.istore_n 1, 1) := by decide +kernel
theorem dX9_fair_105 : decode cX9_fair 105 = .ok (.iinc 3 1, 3) := by decide +kernel
theorem dX9_fair_108 : decode cX9_fair 108 = .ok (.goto (-89), 3) := by decide +kernel
theorem dX9_fair_111 : decode cX9_fair 111 = .ok (.iinc 2 1, 3) := by decide +kernel
theorem dX9_fair_114 : decode cX9_fair 114 = .ok (.goto (-110), 3) := by decide +kernel
theorem dX9_fair_117 : decode cX9_fair 117 = .ok (.iload_n 1, 1) := by decide +kernel
theorem dX9_fair_118 : decode cX9_fair 118 = .ok (.ireturn, 1) := by decide +kernel
theorem dX9_count_0 : decode cX9_count 0 = .ok (.iload_n 1, 1) := by decide +kernel
theorem dX9_count_1 : decode cX9_count 1 = .ok (.tableswitch 177 0 14 #[75, 80, 88, 96, 104, 110, 116, 122, 128, 134, 141, 149, 155, 162, 169], 75) := by decide +kernel
theorem dX9_count_76 : decode cX9_count 76 = .ok (.aload_n 0, 1) := by decide +kernel
theorem dX9_count_77 : decode cX9_count 77 = .ok (.getfield 63, 3) := by decide +kernel
theorem dX9_count_80 : decode cX9_count 80 = .ok (.ireturn, 1) := by decide +kernel
theorem dX9_count_81 : decode cX9_count 81 = .ok (.aload_n 0, 1) := by decide +kernel
theorem dX9_count_82 : decode cX9_count 82 = .ok (.getfield 12, 3) := by decide +kernel
theorem dX9_count_85 : decode cX9_count 85 = .ok (.invokevirtual 93, 3) := by decide +kernel
theorem dX9_count_88 : decode cX9_count 88 = .ok (.ireturn, 1) := by decide +kernel
theorem dX9_count_89 : decode cX9_count 89 = .ok (.aload_n 0, 1) := by decide +kernel
theorem dX9_count_90 : decode cX9_count 90 = .ok (.getfield 16, 3) := by decide +kernel
theorem dX9_count_93 : decode cX9_count 93 = .ok (.invokevirtual 93, 3) := by decide +kernel
theorem dX9_count_96 : decode cX9_count 96 = .ok (.ireturn, 1) := by decide +kernel
theorem dX9_count_97 : decode cX9_count 97 = .ok (.aload_n 0, 1) := by decide +kernel
theorem dX9_count_98 : decode cX9_count 98 = .ok (.getfield 32, 3) := by decide +kernel
theorem dX9_count_101 : decode cX9_count 101 = .ok (.getfield 168, 3) := by decide +kernel
theorem dX9_count_104 : decode cX9_count 104 = .ok (.ireturn, 1) := by decide +kernel
theorem dX9_count_105 : decode cX9_count 105 = .ok (.aload_n 0, 1) := by decide +kernel
theorem dX9_count_106 : decode cX9_count 106 = .ok (.iconst 0, 1) := by decide +kernel
theorem dX9_count_107 : decode cX9_count 107 = .ok (.invokevirtual 377, 3) := by decide +kernel
theorem dX9_count_110 : decode cX9_count 110 = .ok (.ireturn, 1) := by decide +kernel
theorem dX9_count_111 : decode cX9_count 111 = .ok (.aload_n 0, 1) := by decide +kernel
theorem dX9_count_112 : decode cX9_count 112 = .ok (.iconst 1, 1) := by decide +kernel
theorem dX9_count_113 : decode cX9_count 113 = .ok (.invokevirtual 377, 3) := by decide +kernel
theorem dX9_count_116 : decode cX9_count 116 = .ok (.ireturn, 1) := by decide +kernel
theorem dX9_count_117 : decode cX9_count 117 = .ok (.aload_n 0, 1) := by decide +kernel
theorem dX9_count_118 : decode cX9_count 118 = .ok (.iconst 2, 1) := by decide +kernel
theorem dX9_count_119 : decode cX9_count 119 = .ok (.invokevirtual 377, 3) := by decide +kernel
theorem dX9_count_122 : decode cX9_count 122 = .ok (.ireturn, 1) := by decide +kernel
theorem dX9_count_123 : decode cX9_count 123 = .ok (.aload_n 0, 1) := by decide +kernel
theorem dX9_count_124 : decode cX9_count 124 = .ok (.iconst 3, 1) := by decide +kernel
theorem dX9_count_125 : decode cX9_count 125 = .ok (.invokevirtual 377, 3) := by decide +kernel
theorem dX9_count_128 : decode cX9_count 128 = .ok (.ireturn, 1) := by decide +kernel
theorem dX9_count_129 : decode cX9_count 129 = .ok (.aload_n 0, 1) := by decide +kernel
theorem dX9_count_130 : decode cX9_count 130 = .ok (.iconst 5, 1) := by decide +kernel
theorem dX9_count_131 : decode cX9_count 131 = .ok (.invokevirtual 380, 3) := by decide +kernel
theorem dX9_count_134 : decode cX9_count 134 = .ok (.ireturn, 1) := by decide +kernel
theorem dX9_count_135 : decode cX9_count 135 = .ok (.aload_n 0, 1) := by decide +kernel
theorem dX9_count_136 : decode cX9_count 136 = .ok (.bipush 6, 2) := by decide +kernel
theorem dX9_count_138 : decode cX9_count 138 = .ok (.invokevirtual 380, 3) := by decide +kernel
theorem dX9_count_141 : decode cX9_count 141 = .ok (.ireturn, 1) := by decide +kernel
theorem dX9_count_142 : decode cX9_count 142 = .ok (.aload_n 0, 1) := by decide +kernel
theorem dX9_count_143 : decode cX9_count 143 = .ok (.getfield 46, 3) := by decide +kernel
theorem dX9_count_146 : decode cX9_count 146 = .ok (.invokevirtual 383, 3) := by decide +kernel
theorem dX9_count_149 : decode cX9_count 149 = .ok (.ireturn, 1) := by decide +kernel
theorem dX9_count_150 : decode cX9_count 150 = .ok (.aload_n 0, 1) := by decide +kernel
theorem dX9_count_151 : decode cX9_count 151 = .ok (.iconst 5, 1) := by decide +kernel
theorem dX9_count_152 : decode cX9_count 152 = .ok (.invokevirtual 385, 3) := by decide +kernel
theorem dX9_count_155 : decode cX9_count 155 = .ok (.ireturn, 1) := by decide +kernel
theorem dX9_count_156 : decode cX9_count 156 = .ok (.aload_n 0, 1) := by decide +kernel
theorem dX9_count_157 : decode cX9_count 157 = .ok (.bipush 6, 2) := by decide +kernel
theorem dX9_count_159 : decode cX9_count 159 = .ok (.invokevirtual 385, 3) := by decide +kernel
theorem dX9_count_162 : decode cX9_count 162 = .ok (.ireturn, 1) := by decide +kernel
theorem dX9_count_163 : decode cX9_count 163 = .ok (.aload_n 0, 1) := by decide +kernel
theorem dX9_count_164 : decode cX9_count 164 = .ok (.bipush 7, 2) := by decide +kernel
theorem dX9_count_166 : decode cX9_count 166 = .ok (.invokevirtual 385, 3) := by decide +kernel
theorem dX9_count_169 : decode cX9_count 169 = .ok (.ireturn, 1) := by decide +kernel
theorem dX9_count_170 : decode cX9_count 170 = .ok (.aload_n 0, 1) := by decide +kernel
theorem dX9_count_171 : decode cX9_count 171 = .ok (.getfield 59, 3) := by decide +kernel
theorem dX9_count_174 : decode cX9_count 174 = .ok (.getfield 388, 3) := by decide +kernel
theorem dX9_count_177 : decode cX9_count 177 = .ok (.ireturn, 1) := by decide +kernel
theorem dX9_count_178 : decode cX9_count 178 = .ok (.iconst (-1), 1) := by decide +kernel
theorem dX9_count_179 : decode cX9_count 179 = .ok (.ireturn, 1) := by decide +kernel
theorem dX9_within_0 : decode cX9_within 0 = .ok (.iload_n 0, 1) := by decide +kernel
theorem dX9_within_1 : decode cX9_within 1 = .ok (.iload_n 1, 1) := by decide +kernel
theorem dX9_within_2 : decode cX9_within 2 = .ok (.if_icmp .lt 12, 3) := by decide +kernel
theorem dX9_within_5 : decode cX9_within 5 = .ok (.iload_n 0, 1) := by decide +kernel
theorem dX9_within_6 : decode cX9_within 6 = .ok (.iload_n 2, 1) := by decide +kernel
theorem dX9_within_7 : decode cX9_within 7 = .ok (.if_icmp .gt 7, 3) := by decide +kernel
theorem dX9_within_10 : decode cX9_within 10 = .ok (.iconst 1, 1) := by decide +kernel
theorem dX9_within_11 : decode cX9_within 11 = .ok (.goto 4, 3) := by decide +kernel
theorem dX9_within_14 : decode cX9_within 14 = .ok (.iconst 0, 1) := by decide +kernel
theorem dX9_within_15 : decode cX9_within 15 = .ok (.ireturn, 1) := by decide +kernel
theorem dX9_isDay_0 : decode cX9_isDay 0 = .ok (.iload_n 0, 1) := by decide +kernel
theorem dX9_isDay_1 : decode cX9_isDay 1 = .ok (.iconst 0, 1) := by decide +kernel
theorem dX9_isDay_2 : decode cX9_isDay 2 = .ok (.sipush 399, 3) := by decide +kernel
theorem dX9_isDay_5 : decode cX9_isDay 5 = .ok (.invokestatic 80, 3) := by decide +kernel
theorem dX9_isDay_8 : decode cX9_isDay 8 = .ok (.ireturn, 1) := by decide +kernel
theorem dX9_isNight_0 : decode cX9_isNight 0 = .ok (.iload_n 0, 1) := by decide +kernel
theorem dX9_isNight_1 : decode cX9_isNight 1 = .ok (.bipush 24, 2) := by decide +kernel
theorem dX9_isNight_3 : decode cX9_isNight 3 = .ok (.irem, 1) := by decide +kernel
theorem dX9_isNight_4 : decode cX9_isNight 4 = .ok (.istore_n 1, 1) := by decide +kernel
theorem dX9_isNight_5 : decode cX9_isNight 5 = .ok (.iload_n 1, 1) := by decide +kernel
theorem dX9_isNight_6 : decode cX9_isNight 6 = .ok (.bipush 6, 2) := by decide +kernel
theorem dX9_isNight_8 : decode cX9_isNight 8 = .ok (.if_icmp .lt 9, 3) := by decide +kernel
theorem dX9_isNight_11 : decode cX9_isNight 11 = .ok (.iload_n 1, 1) := by decide +kernel
theorem dX9_isNight_12 : decode cX9_isNight 12 = .ok (.bipush 21, 2) := by decide +kernel
theorem dX9_isNight_14 : decode cX9_isNight 14 = .ok (.if_icmp .le 7, 3) := by decide +kernel
theorem dX9_isNight_17 : decode cX9_isNight 17 = .ok (.iconst 1, 1) := by decide +kernel
theorem dX9_isNight_18 : decode cX9_isNight 18 = .ok (.goto 4, 3) := by decide +kernel
theorem dX9_isNight_21 : decode cX9_isNight 21 = .ok (.iconst 0, 1) := by decide +kernel
theorem dX9_isNight_22 : decode cX9_isNight 22 = .ok (.ireturn, 1) := by decide +kernel
theorem dX9_numberOf_0 : decode cX9_numberOf 0 = .ok (.aload_n 0, 1) := by decide +kernel
theorem dX9_numberOf_1 : decode cX9_numberOf 1 = .ok (.ifnonnull 7, 3) := by decide +kernel
theorem dX9_numberOf_4 : decode cX9_numberOf 4 = .ok (.iconst (-1), 1) := by decide +kernel
theorem dX9_numberOf_5 : decode cX9_numberOf 5 = .ok (.goto 7, 3) := by decide +kernel
theorem dX9_numberOf_8 : decode cX9_numberOf 8 = .ok (.aload_n 0, 1) := by decide +kernel
theorem dX9_numberOf_9 : decode cX9_numberOf 9 = .ok (.getfield 115, 3) := by decide +kernel
theorem dX9_numberOf_12 : decode cX9_numberOf 12 = .ok (.ireturn, 1) := by decide +kernel
theorem dX9_pilotNumbered_0 : decode cX9_pilotNumbered 0 = .ok (.iload_n 1, 1) := by decide +kernel
theorem dX9_pilotNumbered_1 : decode cX9_pilotNumbered 1 = .ok (.ifCond .lt 14, 3) := by decide +kernel
theorem dX9_pilotNumbered_4 : decode cX9_pilotNumbered 4 = .ok (.iload_n 1, 1) := by decide +kernel
theorem dX9_pilotNumbered_5 : decode cX9_pilotNumbered 5 = .ok (.aload_n 0, 1) := by decide +kernel
theorem dX9_pilotNumbered_6 : decode cX9_pilotNumbered 6 = .ok (.getfield 12, 3) := by decide +kernel
theorem dX9_pilotNumbered_9 : decode cX9_pilotNumbered 9 = .ok (.invokevirtual 93, 3) := by decide +kernel
theorem dX9_pilotNumbered_12 : decode cX9_pilotNumbered 12 = .ok (.if_icmp .lt 14, 3) := by decide +kernel
theorem dX9_pilotNumbered_15 : decode cX9_pilotNumbered 15 = .ok (.new 124, 3) := by decide +kernel
theorem dX9_pilotNumbered_18 : decode cX9_pilotNumbered 18 = .ok (.dup, 1) := by decide +kernel
theorem dX9_pilotNumbered_19 : decode cX9_pilotNumbered 19 = .ok (.ldc_w 391, 3) := by decide +kernel
theorem dX9_pilotNumbered_22 : decode cX9_pilotNumbered 22 = .ok (.invokespecial 128, 3) := by decide +kernel
theorem dX9_pilotNumbered_25 : decode cX9_pilotNumbered 25 = .ok (.athrow, 1) := by decide +kernel
theorem dX9_pilotNumbered_26 : decode cX9_pilotNumbered 26 = .ok (.aload_n 0, 1) := by decide +kernel
theorem dX9_pilotNumbered_27 : decode cX9_pilotNumbered 27 = .ok (.getfield 12, 3) := by decide +kernel
theorem dX9_pilotNumbered_30 : decode cX9_pilotNumbered 30 = .ok (.iload_n 1, 1) := by decide +kernel
theorem dX9_pilotNumbered_31 : decode cX9_pilotNumbered 31 = .ok (.invokevirtual 268, 3) := by decide +kernel
theorem dX9_pilotNumbered_34 : decode cX9_pilotNumbered 34 = .ok (.checkcast 102, 3) := by decide +kernel
theorem dX9_pilotNumbered_37 : decode cX9_pilotNumbered 37 = .ok (.areturn, 1) := by decide +kernel
theorem dX9_shipNumbered_0 : decode cX9_shipNumbered 0 = .ok (.iload_n 1, 1) := by decide +kernel
theorem dX9_shipNumbered_1 : decode cX9_shipNumbered 1 = .ok (.ifCond .lt 14, 3) := by decide +kernel
theorem dX9_shipNumbered_4 : decode cX9_shipNumbered 4 = .ok (.iload_n 1, 1) := by decide +kernel
theorem dX9_shipNumbered_5 : decode cX9_shipNumbered 5 = .ok (.aload_n 0, 1) := by decide +kernel
theorem dX9_shipNumbered_6 : decode cX9_shipNumbered 6 = .ok (.getfield 16, 3) := by decide +kernel
theorem dX9_shipNumbered_9 : decode cX9_shipNumbered 9 = .ok (.invokevirtual 93, 3) := by decide +kernel
theorem dX9_shipNumbered_12 : decode cX9_shipNumbered 12 = .ok (.if_icmp .lt 14, 3) := by decide +kernel
theorem dX9_shipNumbered_15 : decode cX9_shipNumbered 15 = .ok (.new 124, 3) := by decide +kernel
theorem dX9_shipNumbered_18 : decode cX9_shipNumbered 18 = .ok (.dup, 1) := by decide +kernel
theorem dX9_shipNumbered_19 : decode cX9_shipNumbered 19 = .ok (.ldc_w 393, 3) := by decide +kernel
theorem dX9_shipNumbered_22 : decode cX9_shipNumbered 22 = .ok (.invokespecial 128, 3) := by decide +kernel
theorem dX9_shipNumbered_25 : decode cX9_shipNumbered 25 = .ok (.athrow, 1) := by decide +kernel
theorem dX9_shipNumbered_26 : decode cX9_shipNumbered 26 = .ok (.aload_n 0, 1) := by decide +kernel
theorem dX9_shipNumbered_27 : decode cX9_shipNumbered 27 = .ok (.getfield 16, 3) := by decide +kernel
theorem dX9_shipNumbered_30 : decode cX9_shipNumbered 30 = .ok (.iload_n 1, 1) := by decide +kernel
theorem dX9_shipNumbered_31 : decode cX9_shipNumbered 31 = .ok (.invokevirtual 268, 3) := by decide +kernel
theorem dX9_shipNumbered_34 : decode cX9_shipNumbered 34 = .ok (.checkcast 131, 3) := by decide +kernel
theorem dX9_shipNumbered_37 : decode cX9_shipNumbered 37 = .ok (.areturn, 1) := by decide +kernel
theorem dX9_placeByLength_0 : decode cX9_placeByLength 0 = .ok (.iconst 0, 1) := by decide +kernel
theorem dX9_placeByLength_1 : decode cX9_placeByLength 1 = .ok (.istore_n 2, 1) := by decide +kernel
theorem dX9_placeByLength_2 : decode cX9_placeByLength 2 = .ok (.iload_n 2, 1) := by decide +kernel
theorem dX9_placeByLength_3 : decode cX9_placeByLength 3 = .ok (.aload_n 0, 1) := by decide +kernel
theorem dX9_placeByLength_4 : decode cX9_placeByLength 4 = .ok (.getfield 19, 3) := by decide +kernel
theorem dX9_placeByLength_7 : decode cX9_placeByLength 7 = .ok (.invokevirtual 93, 3) := by decide +kernel
theorem dX9_placeByLength_10 : decode cX9_placeByLength 10 = .ok (.if_icmp .ge 27, 3) := by decide +kernel
theorem dX9_placeByLength_13 : decode cX9_placeByLength 13 = .ok (.aload_n 0, 1) := by decide +kernel
theorem dX9_placeByLength_14 : decode cX9_placeByLength 14 = .ok (.getfield 19, 3) := by decide +kernel
theorem dX9_placeByLength_17 : decode cX9_placeByLength 17 = .ok (.iload_n 2, 1) := by decide +kernel
theorem dX9_placeByLength_18 : decode cX9_placeByLength 18 = .ok (.invokevirtual 268, 3) := by decide +kernel
theorem dX9_placeByLength_21 : decode cX9_placeByLength 21 = .ok (.checkcast 131, 3) := by decide +kernel
theorem dX9_placeByLength_24 : decode cX9_placeByLength 24 = .ok (.getfield 364, 3) := by decide +kernel
theorem dX9_placeByLength_27 : decode cX9_placeByLength 27 = .ok (.iload_n 1, 1) := by decide +kernel
theorem dX9_placeByLength_28 : decode cX9_placeByLength 28 = .ok (.if_icmp .lt 9, 3) := by decide +kernel
theorem dX9_placeByLength_31 : decode cX9_placeByLength 31 = .ok (.iinc 2 1, 3) := by decide +kernel
theorem dX9_placeByLength_34 : decode cX9_placeByLength 34 = .ok (.goto (-32), 3) := by decide +kernel
theorem dX9_placeByLength_37 : decode cX9_placeByLength 37 = .ok (.iload_n 2, 1) := by decide +kernel
theorem dX9_placeByLength_38 : decode cX9_placeByLength 38 = .ok (.ireturn, 1) := by decide +kernel
theorem dX9_keepState_0 : decode cX9_keepState 0 = .ok (.iconst 0, 1) := by decide +kernel
theorem dX9_keepState_1 : decode cX9_keepState 1 = .ok (.istore_n 1, 1) := by decide +kernel
theorem dX9_keepState_2 : decode cX9_keepState 2 = .ok (.iload_n 1, 1) := by decide +kernel
theorem dX9_keepState_3 : decode cX9_keepState 3 = .ok (.aload_n 0, 1) := by decide +kernel
theorem dX9_keepState_4 : decode cX9_keepState 4 = .ok (.getfield 12, 3) := by decide +kernel
theorem dX9_keepState_7 : decode cX9_keepState 7 = .ok (.invokevirtual 93, 3) := by decide +kernel
theorem dX9_keepState_10 : decode cX9_keepState 10 = .ok (.if_icmp .ge 40, 3) := by decide +kernel
theorem dX9_keepState_13 : decode cX9_keepState 13 = .ok (.aload_n 0, 1) := by decide +kernel
theorem dX9_keepState_14 : decode cX9_keepState 14 = .ok (.getfield 12, 3) := by decide +kernel
theorem dX9_keepState_17 : decode cX9_keepState 17 = .ok (.iload_n 1, 1) := by decide +kernel
theorem dX9_keepState_18 : decode cX9_keepState 18 = .ok (.invokevirtual 268, 3) := by decide +kernel
theorem dX9_keepState_21 : decode cX9_keepState 21 = .ok (.checkcast 102, 3) := by decide +kernel
theorem dX9_keepState_24 : decode cX9_keepState 24 = .ok (.getfield 272, 3) := by decide +kernel
theorem dX9_keepState_27 : decode cX9_keepState 27 = .ok (.aload_n 0, 1) := by decide +kernel
theorem dX9_keepState_28 : decode cX9_keepState 28 = .ok (.getfield 12, 3) := by decide +kernel
theorem dX9_keepState_31 : decode cX9_keepState 31 = .ok (.iload_n 1, 1) := by decide +kernel
theorem dX9_keepState_32 : decode cX9_keepState 32 = .ok (.invokevirtual 268, 3) := by decide +kernel
theorem dX9_keepState_35 : decode cX9_keepState 35 = .ok (.checkcast 102, 3) := by decide +kernel
theorem dX9_keepState_38 : decode cX9_keepState 38 = .ok (.getfield 234, 3) := by decide +kernel
theorem dX9_keepState_41 : decode cX9_keepState 41 = .ok (.invokevirtual 275, 3) := by decide +kernel
theorem dX9_keepState_44 : decode cX9_keepState 44 = .ok (.iinc 1 1, 3) := by decide +kernel
theorem dX9_keepState_47 : decode cX9_keepState 47 = .ok (.goto (-45), 3) := by decide +kernel
theorem dX9_keepState_50 : decode cX9_keepState 50 = .ok (.iconst 0, 1) := by decide +kernel
theorem dX9_keepState_51 : decode cX9_keepState 51 = .ok (.istore_n 1, 1) := by decide +kernel
theorem dX9_keepState_52 : decode cX9_keepState 52 = .ok (.iload_n 1, 1) := by decide +kernel
theorem dX9_keepState_53 : decode cX9_keepState 53 = .ok (.aload_n 0, 1) := by decide +kernel
theorem dX9_keepState_54 : decode cX9_keepState 54 = .ok (.getfield 16, 3) := by decide +kernel
theorem dX9_keepState_57 : decode cX9_keepState 57 = .ok (.invokevirtual 93, 3) := by decide +kernel
theorem dX9_keepState_60 : decode cX9_keepState 60 = .ok (.if_icmp .ge 40, 3) := by decide +kernel
theorem dX9_keepState_63 : decode cX9_keepState 63 = .ok (.aload_n 0, 1) := by decide +kernel
theorem dX9_keepState_64 : decode cX9_keepState 64 = .ok (.getfield 16, 3) := by decide +kernel
theorem dX9_keepState_67 : decode cX9_keepState 67 = .ok (.iload_n 1, 1) := by decide +kernel
theorem dX9_keepState_68 : decode cX9_keepState 68 = .ok (.invokevirtual 268, 3) := by decide +kernel
theorem dX9_keepState_71 : decode cX9_keepState 71 = .ok (.checkcast 131, 3) := by decide +kernel
theorem dX9_keepState_74 : decode cX9_keepState 74 = .ok (.getfield 279, 3) := by decide +kernel
theorem dX9_keepState_77 : decode cX9_keepState 77 = .ok (.aload_n 0, 1) := by decide +kernel
theorem dX9_keepState_78 : decode cX9_keepState 78 = .ok (.getfield 16, 3) := by decide +kernel
theorem dX9_keepState_81 : decode cX9_keepState 81 = .ok (.iload_n 1, 1) := by decide +kernel
theorem dX9_keepState_82 : decode cX9_keepState 82 = .ok (.invokevirtual 268, 3) := by decide +kernel
theorem dX9_keepState_85 : decode cX9_keepState 85 = .ok (.checkcast 131, 3) := by decide +kernel
theorem dX9_keepState_88 : decode cX9_keepState 88 = .ok (.getfield 221, 3) := by decide +kernel
theorem dX9_keepState_91 : decode cX9_keepState 91 = .ok (.invokevirtual 282, 3) := by decide +kernel
theorem dX9_keepState_94 : decode cX9_keepState 94 = .ok (.iinc 1 1, 3) := by decide +kernel
theorem dX9_keepState_97 : decode cX9_keepState 97 = .ok (.goto (-45), 3) := by decide +kernel
theorem dX9_keepState_100 : decode cX9_keepState 100 = .ok (.aload_n 0, 1) := by decide +kernel
theorem dX9_keepState_101 : decode cX9_keepState 101 = .ok (.getfield 50, 3) := by decide +kernel
theorem dX9_keepState_104 : decode cX9_keepState 104 = .ok (.aload_n 0, 1) := by decide +kernel
theorem dX9_keepState_105 : decode cX9_keepState 105 = .ok (.getfield 46, 3) := by decide +kernel
theorem dX9_keepState_108 : decode cX9_keepState 108 = .ok (.invokevirtual 285, 3) := by decide +kernel
theorem dX9_keepState_111 : decode cX9_keepState 111 = .ok (.aload_n 0, 1) := by decide +kernel
theorem dX9_keepState_112 : decode cX9_keepState 112 = .ok (.iconst 1, 1) := by decide +kernel
theorem dX9_keepState_113 : decode cX9_keepState 113 = .ok (.putfield 77, 3) := by decide +kernel
theorem dX9_keepState_116 : decode cX9_keepState 116 = .ok (.return_, 1) := by decide +kernel
theorem dX9_sendShips_0 : decode cX9_sendShips 0 = .ok (.iconst 0, 1) := by decide +kernel
theorem dX9_sendShips_1 : decode cX9_sendShips 1 = .ok (.istore_n 2, 1) := by decide +kernel
theorem dX9_sendShips_2 : decode cX9_sendShips 2 = .ok (.aload_n 0, 1) := by decide +kernel
theorem dX9_sendShips_3 : decode cX9_sendShips 3 = .ok (.aload_n 0, 1) := by decide +kernel
theorem dX9_sendShips_4 : decode cX9_sendShips 4 = .ok (.getfield 32, 3) := by decide +kernel
theorem dX9_sendShips_7 : decode cX9_sendShips 7 = .ok (.aload_n 0, 1) := by decide +kernel
theorem dX9_sendShips_8 : decode cX9_sendShips 8 = .ok (.getfield 63, 3) := by decide +kernel
theorem dX9_sendShips_11 : decode cX9_sendShips 11 = .ok (.invokevirtual 295, 3) := by decide +kernel
theorem dX9_sendShips_14 : decode cX9_sendShips 14 = .ok (.putfield 70, 3) := by decide +kernel
theorem dX9_sendShips_17 : decode cX9_sendShips 17 = .ok (.iconst 0, 1) := by decide +kernel
theorem dX9_sendShips_18 : decode cX9_sendShips 18 = .ok (.istore_n 3, 1) := by decide +kernel
theorem dX9_sendShips_19 : decode cX9_sendShips 19 = .ok (.iload_n 3, 1) := by decide +kernel
theorem dX9_sendShips_20 : decode cX9_sendShips 20 = .ok (.aload_n 0, 1) := by decide +kernel
theorem dX9_sendShips_21 : decode cX9_sendShips 21 = .ok (.getfield 19, 3) := by decide +kernel
theorem dX9_sendShips_24 : decode cX9_sendShips 24 = .ok (.invokevirtual 93, 3) := by decide +kernel
theorem dX9_sendShips_27 : decode cX9_sendShips 27 = .ok (.if_icmp .ge 55, 3) := by decide +kernel
theorem dX9_sendShips_30 : decode cX9_sendShips 30 = .ok (.aload_n 0, 1) := by decide +kernel
theorem dX9_sendShips_31 : decode cX9_sendShips 31 = .ok (.getfield 19, 3) := by decide +kernel
theorem dX9_sendShips_34 : decode cX9_sendShips 34 = .ok (.iload_n 3, 1) := by decide +kernel
theorem dX9_sendShips_35 : decode cX9_sendShips 35 = .ok (.invokevirtual 268, 3) := by decide +kernel
theorem dX9_sendShips_38 : decode cX9_sendShips 38 = .ok (.checkcast 131, 3) := by decide +kernel
theorem dX9_sendShips_41 : decode cX9_sendShips 41 = .ok (.astore 4, 2) := by decide +kernel
theorem dX9_sendShips_43 : decode cX9_sendShips 43 = .ok (.aload 4, 2) := by decide +kernel
theorem dX9_sendShips_45 : decode cX9_sendShips 45 = .ok (.getfield 221, 3) := by decide +kernel
theorem dX9_sendShips_48 : decode cX9_sendShips 48 = .ok (.getfield 343, 3) := by decide +kernel
theorem dX9_sendShips_51 : decode cX9_sendShips 51 = .ok (.ifCond .ne 25, 3) := by decide +kernel
theorem dX9_sendShips_54 : decode cX9_sendShips 54 = .ok (.aload 4, 2) := by decide +kernel
theorem dX9_sendShips_56 : decode cX9_sendShips 56 = .ok (.getfield 395, 3) := by decide +kernel
theorem dX9_sendShips_59 : decode cX9_sendShips 59 = .ok (.iload_n 1, 1) := by decide +kernel
theorem dX9_sendShips_60 : decode cX9_sendShips 60 = .ok (.if_icmp .gt 16, 3) := by decide +kernel
theorem dX9_sendShips_63 : decode cX9_sendShips 63 = .ok (.aload_n 0, 1) := by decide +kernel
theorem dX9_sendShips_64 : decode cX9_sendShips 64 = .ok (.aload 4, 2) := by decide +kernel
theorem dX9_sendShips_66 : decode cX9_sendShips 66 = .ok (.iload_n 1, 1) := by decide +kernel
theorem dX9_sendShips_67 : decode cX9_sendShips 67 = .ok (.invokevirtual 398, 3) := by decide +kernel
theorem dX9_sendShips_70 : decode cX9_sendShips 70 = .ok (.ifCond .eq 6, 3) := by decide +kernel
theorem dX9_sendShips_73 : decode cX9_sendShips 73 = .ok (.iinc 2 1, 3) := by decide +kernel
theorem dX9_sendShips_76 : decode cX9_sendShips 76 = .ok (.iinc 3 1, 3) := by decide +kernel
theorem dX9_sendShips_79 : decode cX9_sendShips 79 = .ok (.goto (-60), 3) := by decide +kernel
theorem dX9_sendShips_82 : decode cX9_sendShips 82 = .ok (.iload_n 2, 1) := by decide +kernel
theorem dX9_sendShips_83 : decode cX9_sendShips 83 = .ok (.ireturn, 1) := by decide +kernel
theorem dX9_goes_0 : decode cX9_goes 0 = .ok (.aload_n 0, 1) := by decide +kernel
theorem dX9_goes_1 : decode cX9_goes 1 = .ok (.getfield 25, 3) := by decide +kernel
theorem dX9_goes_4 : decode cX9_goes 4 = .ok (.aload_n 1, 1) := by decide +kernel
theorem dX9_goes_5 : decode cX9_goes 5 = .ok (.getfield 288, 3) := by decide +kernel
theorem dX9_goes_8 : decode cX9_goes 8 = .ok (.iload_n 2, 1) := by decide +kernel
theorem dX9_goes_9 : decode cX9_goes 9 = .ok (.invokevirtual 291, 3) := by decide +kernel
theorem dX9_goes_12 : decode cX9_goes 12 = .ok (.ifCond .ne 18, 3) := by decide +kernel
theorem dX9_goes_15 : decode cX9_goes 15 = .ok (.aload_n 1, 1) := by decide +kernel
theorem dX9_goes_16 : decode cX9_goes 16 = .ok (.getfield 221, 3) := by decide +kernel
theorem dX9_goes_19 : decode cX9_goes 19 = .ok (.dup, 1) := by decide +kernel
theorem dX9_goes_20 : decode cX9_goes 20 = .ok (.getfield 355, 3) := by decide +kernel
theorem dX9_goes_23 : decode cX9_goes 23 = .ok (.iconst 1, 1) := by decide +kernel
theorem dX9_goes_24 : decode cX9_goes 24 = .ok (.iadd, 1) := by decide +kernel
theorem dX9_goes_25 : decode cX9_goes 25 = .ok (.putfield 355, 3) := by decide +kernel
theorem dX9_goes_28 : decode cX9_goes 28 = .ok (.iconst 0, 1) := by decide +kernel
theorem dX9_goes_29 : decode cX9_goes 29 = .ok (.ireturn, 1) := by decide +kernel
theorem dX9_goes_30 : decode cX9_goes 30 = .ok (.aload_n 0, 1) := by decide +kernel
theorem dX9_goes_31 : decode cX9_goes 31 = .ok (.iconst 0, 1) := by decide +kernel
theorem dX9_goes_32 : decode cX9_goes 32 = .ok (.putfield 73, 3) := by decide +kernel
theorem dX9_goes_35 : decode cX9_goes 35 = .ok (.aload_n 1, 1) := by decide +kernel
theorem dX9_goes_36 : decode cX9_goes 36 = .ok (.getfield 402, 3) := by decide +kernel
theorem dX9_goes_39 : decode cX9_goes 39 = .ok (.ifCond .lt 12, 3) := by decide +kernel
theorem dX9_goes_42 : decode cX9_goes 42 = .ok (.aload_n 0, 1) := by decide +kernel
theorem dX9_goes_43 : decode cX9_goes 43 = .ok (.aload_n 1, 1) := by decide +kernel
theorem dX9_goes_44 : decode cX9_goes 44 = .ok (.iload_n 2, 1) := by decide +kernel
theorem dX9_goes_45 : decode cX9_goes 45 = .ok (.invokevirtual 405, 3) := by decide +kernel
theorem dX9_goes_48 : decode cX9_goes 48 = .ok (.goto 10, 3) := by decide +kernel
theorem dX9_goes_51 : decode cX9_goes 51 = .ok (.aload_n 0, 1) := by decide +kernel
theorem dX9_goes_52 : decode cX9_goes 52 = .ok (.aload_n 1, 1) := by decide +kernel
theorem dX9_goes_53 : decode cX9_goes 53 = .ok (.aconst_null, 1) := by decide +kernel
theorem dX9_goes_54 : decode cX9_goes 54 = .ok (.iload_n 2, 1) := by decide +kernel
theorem dX9_goes_55 : decode cX9_goes 55 = .ok (.invokevirtual 409, 3) := by decide +kernel
theorem dX9_goes_58 : decode cX9_goes 58 = .ok (.astore_n 3, 1) := by decide +kernel
theorem dX9_goes_59 : decode cX9_goes 59 = .ok (.aconst_null, 1) := by decide +kernel
theorem dX9_goes_60 : decode cX9_goes 60 = .ok (.astore 4, 2) := by decide +kernel
theorem dX9_goes_62 : decode cX9_goes 62 = .ok (.aload_n 3, 1) := by decide +kernel
theorem dX9_goes_63 : decode cX9_goes 63 = .ok (.ifnull 21, 3) := by decide +kernel
theorem dX9_goes_66 : decode cX9_goes 66 = .ok (.aload_n 1, 1) := by decide +kernel
theorem dX9_goes_67 : decode cX9_goes 67 = .ok (.getfield 402, 3) := by decide +kernel
theorem dX9_goes_70 : decode cX9_goes 70 = .ok (.bipush (-2), 2) := by decide +kernel
theorem dX9_goes_72 : decode cX9_goes 72 = .ok (.if_icmp .ne 12, 3) := by decide +kernel
theorem dX9_goes_75 : decode cX9_goes 75 = .ok (.aload_n 0, 1) := by decide +kernel
theorem dX9_goes_76 : decode cX9_goes 76 = .ok (.aload_n 1, 1) := by decide +kernel
theorem dX9_goes_77 : decode cX9_goes 77 = .ok (.aload_n 3, 1) := by decide +kernel
theorem dX9_goes_78 : decode cX9_goes 78 = .ok (.iload_n 2, 1) := by decide +kernel
theorem dX9_goes_79 : decode cX9_goes 79 = .ok (.invokevirtual 409, 3) := by decide +kernel
theorem dX9_goes_82 : decode cX9_goes 82 = .ok (.astore 4, 2) := by decide +kernel
theorem dX9_goes_84 : decode cX9_goes 84 = .ok (.aload_n 3, 1) := by decide +kernel
theorem dX9_goes_85 : decode cX9_goes 85 = .ok (.ifnull 17, 3) := by decide +kernel
theorem dX9_goes_88 : decode cX9_goes 88 = .ok (.aload_n 1, 1) := by decide +kernel
theorem dX9_goes_89 : decode cX9_goes 89 = .ok (.getfield 402, 3) := by decide +kernel
theorem dX9_goes_92 : decode cX9_goes 92 = .ok (.bipush (-2), 2) := by decide +kernel
theorem dX9_goes_94 : decode cX9_goes 94 = .ok (.if_icmp .ne 15, 3) := by decide +kernel
theorem dX9_goes_97 : decode cX9_goes 97 = .ok (.aload 4, 2) := by decide +kernel
theorem dX9_goes_99 : decode cX9_goes 99 = .ok (.ifnonnull 10, 3) := by decide +kernel
theorem dX9_goes_102 : decode cX9_goes 102 = .ok (.aload_n 0, 1) := by decide +kernel
theorem dX9_goes_103 : decode cX9_goes 103 = .ok (.aload_n 1, 1) := by decide +kernel
theorem dX9_goes_104 : decode cX9_goes 104 = .ok (.invokevirtual 413, 3) := by decide +kernel
theorem dX9_goes_107 : decode cX9_goes 107 = .ok (.iconst 0, 1) := by decide +kernel
theorem dX9_goes_108 : decode cX9_goes 108 = .ok (.ireturn, 1) := by decide +kernel
theorem dX9_goes_109 : decode cX9_goes 109 = .ok (.aload_n 0, 1) := by decide +kernel
theorem dX9_goes_110 : decode cX9_goes 110 = .ok (.aload_n 1, 1) := by decide +kernel
theorem dX9_goes_111 : decode cX9_goes 111 = .ok (.aload_n 3, 1) := by decide +kernel
theorem dX9_goes_112 : decode cX9_goes 112 = .ok (.aload 4, 2) := by decide +kernel
theorem dX9_goes_114 : decode cX9_goes 114 = .ok (.iload_n 2, 1) := by decide +kernel
theorem dX9_goes_115 : decode cX9_goes 115 = .ok (.invokevirtual 416, 3) := by decide +kernel
theorem dX9_goes_118 : decode cX9_goes 118 = .ok (.iconst 1, 1) := by decide +kernel
theorem dX9_goes_119 : decode cX9_goes 119 = .ok (.ireturn, 1) := by decide +kernel
theorem dX9_keepWaitingForSomebody_0 : decode cX9_keepWaitingForSomebody 0 = .ok (.aload_n 0, 1) := by decide +kernel
theorem dX9_keepWaitingForSomebody_1 : decode cX9_keepWaitingForSomebody 1 = .ok (.getfield 73, 3) := by decide +kernel
theorem dX9_keepWaitingForSomebody_4 : decode cX9_keepWaitingForSomebody 4 = .ok (.ifCond .eq 19, 3) := by decide +kernel
theorem dX9_keepWaitingForSomebody_7 : decode cX9_keepWaitingForSomebody 7 = .ok (.aload_n 1, 1) := by decide +kernel
theorem dX9_keepWaitingForSomebody_8 : decode cX9_keepWaitingForSomebody 8 = .ok (.getfield 221, 3) := by decide +kernel
theorem dX9_keepWaitingForSomebody_11 : decode cX9_keepWaitingForSomebody 11 = .ok (.dup, 1) := by decide +kernel
theorem dX9_keepWaitingForSomebody_12 : decode cX9_keepWaitingForSomebody 12 = .ok (.getfield 361, 3) := by decide +kernel
theorem dX9_keepWaitingForSomebody_15 : decode cX9_keepWaitingForSomebody 15 = .ok (.iconst 1, 1) := by decide +kernel
theorem dX9_keepWaitingForSomebody_16 : decode cX9_keepWaitingForSomebody 16 = .ok (.iadd, 1) := by decide +kernel
theorem dX9_keepWaitingForSomebody_17 : decode cX9_keepWaitingForSomebody 17 = .ok (.putfield 361, 3) := by decide +kernel
theorem dX9_keepWaitingForSomebody_20 : decode cX9_keepWaitingForSomebody 20 = .ok (.goto 16, 3) := by decide +kernel
theorem dX9_keepWaitingForSomebody_23 : decode cX9_keepWaitingForSomebody 23 = .ok (.aload_n 1, 1) := by decide +kernel
theorem dX9_keepWaitingForSomebody_24 : decode cX9_keepWaitingForSomebody 24 = .ok (.getfield 221, 3) := by decide +kernel
theorem dX9_keepWaitingForSomebody_27 : decode cX9_keepWaitingForSomebody 27 = .ok (.dup, 1) := by decide +kernel
theorem dX9_keepWaitingForSomebody_28 : decode cX9_keepWaitingForSomebody 28 = .ok (.getfield 358, 3) := by decide +kernel
theorem dX9_keepWaitingForSomebody_31 : decode cX9_keepWaitingForSomebody 31 = .ok (.iconst 1, 1) := by decide +kernel
theorem dX9_keepWaitingForSomebody_32 : decode cX9_keepWaitingForSomebody 32 = .ok (.iadd, 1) := by decide +kernel
theorem dX9_keepWaitingForSomebody_33 : decode cX9_keepWaitingForSomebody 33 = .ok (.putfield 358, 3) := by decide +kernel
theorem dX9_keepWaitingForSomebody_36 : decode cX9_keepWaitingForSomebody 36 = .ok (.return_, 1) := by decide +kernel
theorem dX9_askTheToldOne_0 : decode cX9_askTheToldOne 0 = .ok (.aload_n 0, 1) := by decide +kernel
theorem dX9_askTheToldOne_1 : decode cX9_askTheToldOne 1 = .ok (.aload_n 1, 1) := by decide +kernel
theorem dX9_askTheToldOne_2 : decode cX9_askTheToldOne 2 = .ok (.getfield 402, 3) := by decide +kernel
theorem dX9_askTheToldOne_5 : decode cX9_askTheToldOne 5 = .ok (.invokevirtual 182, 3) := by decide +kernel
theorem dX9_askTheToldOne_8 : decode cX9_askTheToldOne 8 = .ok (.astore_n 3, 1) := by decide +kernel
theorem dX9_askTheToldOne_9 : decode cX9_askTheToldOne 9 = .ok (.aload_n 0, 1) := by decide +kernel
theorem dX9_askTheToldOne_10 : decode cX9_askTheToldOne 10 = .ok (.getfield 46, 3) := by decide +kernel
theorem dX9_askTheToldOne_13 : decode cX9_askTheToldOne 13 = .ok (.aload_n 3, 1) := by decide +kernel
theorem dX9_askTheToldOne_14 : decode cX9_askTheToldOne 14 = .ok (.invokevirtual 331, 3) := by decide +kernel
theorem dX9_askTheToldOne_17 : decode cX9_askTheToldOne 17 = .ok (.iconst (-1), 1) := by decide +kernel
theorem dX9_askTheToldOne_18 : decode cX9_askTheToldOne 18 = .ok (.if_icmp .ne 21, 3) := by decide +kernel
theorem dX9_askTheToldOne_21 : decode cX9_askTheToldOne 21 = .ok (.aload_n 0, 1) := by decide +kernel
theorem dX9_askTheToldOne_22 : decode cX9_askTheToldOne 22 = .ok (.getfield 59, 3) := by decide +kernel
theorem dX9_askTheToldOne_25 : decode cX9_askTheToldOne 25 = .ok (.aload_n 1, 1) := by decide +kernel
theorem dX9_askTheToldOne_26 : decode cX9_askTheToldOne 26 = .ok (.getfield 143, 3) := by decide +kernel
theorem dX9_askTheToldOne_29 : decode cX9_askTheToldOne 29 = .ok (.aload_n 3, 1) := by decide +kernel
theorem dX9_askTheToldOne_30 : decode cX9_askTheToldOne 30 = .ok (.getfield 115, 3) := by decide +kernel
theorem dX9_askTheToldOne_33 : decode cX9_askTheToldOne 33 = .ok (.iconst 5, 1) := by decide +kernel
theorem dX9_askTheToldOne_34 : decode cX9_askTheToldOne 34 = .ok (.invokevirtual 420, 3) := by decide +kernel
theorem dX9_askTheToldOne_37 : decode cX9_askTheToldOne 37 = .ok (.aconst_null, 1) := by decide +kernel
theorem dX9_askTheToldOne_38 : decode cX9_askTheToldOne 38 = .ok (.areturn, 1) := by decide +kernel
theorem dX9_askTheToldOne_39 : decode cX9_askTheToldOne 39 = .ok (.aload_n 0, 1) := by decide +kernel
theorem dX9_askTheToldOne_40 : decode cX9_askTheToldOne 40 = .ok (.aload_n 1, 1) := by decide +kernel
theorem dX9_askTheToldOne_41 : decode cX9_askTheToldOne 41 = .ok (.aload_n 3, 1) := by decide +kernel
theorem dX9_askTheToldOne_42 : decode cX9_askTheToldOne 42 = .ok (.aload_n 0, 1) := by decide +kernel
theorem dX9_askTheToldOne_43 : decode cX9_askTheToldOne 43 = .ok (.getfield 70, 3) := by decide +kernel
theorem dX9_askTheToldOne_46 : decode cX9_askTheToldOne 46 = .ok (.iload_n 2, 1) := by decide +kernel
theorem dX9_askTheToldOne_47 : decode cX9_askTheToldOne 47 = .ok (.invokevirtual 422, 3) := by decide +kernel
theorem dX9_askTheToldOne_50 : decode cX9_askTheToldOne 50 = .ok (.ifCond .eq 7, 3) := by decide +kernel
theorem dX9_askTheToldOne_53 : decode cX9_askTheToldOne 53 = .ok (.aload_n 3, 1) := by decide +kernel
theorem dX9_askTheToldOne_54 : decode cX9_askTheToldOne 54 = .ok (.goto 4, 3) := by decide +kernel
theorem dX9_askTheToldOne_57 : decode cX9_askTheToldOne 57 = .ok (.aconst_null, 1) := by decide +kernel
theorem dX9_askTheToldOne_58 : decode cX9_askTheToldOne 58 = .ok (.areturn, 1) := by decide +kernel
theorem dX9_seek_0 : decode cX9_seek 0 = .ok (.aload_n 0, 1) := by decide +kernel
theorem dX9_seek_1 : decode cX9_seek 1 = .ok (.getfield 70, 3) := by decide +kernel
theorem dX9_seek_4 : decode cX9_seek 4 = .ok (.istore 4, 2) := by decide +kernel
theorem dX9_seek_6 : decode cX9_seek 6 = .ok (.aload_n 2, 1) := by decide +kernel
theorem dX9_seek_7 : decode cX9_seek 7 = .ok (.ifnull 14, 3) := by decide +kernel
theorem dX9_seek_10 : decode cX9_seek 10 = .ok (.aload_n 1, 1) := by decide +kernel
theorem dX9_seek_11 : decode cX9_seek 11 = .ok (.aload_n 2, 1) := by decide +kernel
theorem dX9_seek_12 : decode cX9_seek 12 = .ok (.invokestatic 426, 3) := by decide +kernel
theorem dX9_seek_15 : decode cX9_seek 15 = .ok (.ifCond .eq 6, 3) := by decide +kernel
theorem dX9_seek_18 : decode cX9_seek 18 = .ok (.iinc 4 (-1), 3) := by decide +kernel
theorem dX9_seek_21 : decode cX9_seek 21 = .ok (.aload_n 0, 1) := by decide +kernel
theorem dX9_seek_22 : decode cX9_seek 22 = .ok (.getfield 53, 3) := by decide +kernel
theorem dX9_seek_25 : decode cX9_seek 25 = .ok (.aload_n 0, 1) := by decide +kernel
theorem dX9_seek_26 : decode cX9_seek 26 = .ok (.getfield 46, 3) := by decide +kernel
theorem dX9_seek_29 : decode cX9_seek 29 = .ok (.invokevirtual 285, 3) := by decide +kernel
theorem dX9_seek_32 : decode cX9_seek 32 = .ok (.iconst 0, 1) := by decide +kernel
theorem dX9_seek_33 : decode cX9_seek 33 = .ok (.istore 5, 2) := by decide +kernel
theorem dX9_seek_35 : decode cX9_seek 35 = .ok (.iload 5, 2) := by decide +kernel
theorem dX9_seek_37 : decode cX9_seek 37 = .ok (.aload_n 0, 1) := by decide +kernel
theorem dX9_seek_38 : decode cX9_seek 38 = .ok (.getfield 53, 3) := by decide +kernel
theorem dX9_seek_41 : decode cX9_seek 41 = .ok (.invokevirtual 383, 3) := by decide +kernel
theorem dX9_seek_44 : decode cX9_seek 44 = .ok (.if_icmp .ge 47, 3) := by decide +kernel
theorem dX9_seek_47 : decode cX9_seek 47 = .ok (.aload_n 0, 1) := by decide +kernel
theorem dX9_seek_48 : decode cX9_seek 48 = .ok (.getfield 53, 3) := by decide +kernel
theorem dX9_seek_51 : decode cX9_seek 51 = .ok (.iload 5, 2) := by decide +kernel
theorem dX9_seek_53 : decode cX9_seek 53 = .ok (.invokevirtual 301, 3) := by decide +kernel
theorem dX9_seek_56 : decode cX9_seek 56 = .ok (.astore 6, 2) := by decide +kernel
theorem dX9_seek_58 : decode cX9_seek 58 = .ok (.aload 6, 2) := by decide +kernel
theorem dX9_seek_60 : decode cX9_seek 60 = .ok (.ifnull 25, 3) := by decide +kernel
theorem dX9_seek_63 : decode cX9_seek 63 = .ok (.aload 6, 2) := by decide +kernel
theorem dX9_seek_65 : decode cX9_seek 65 = .ok (.aload_n 2, 1) := by decide +kernel
theorem dX9_seek_66 : decode cX9_seek 66 = .ok (.if_acmp .eq 19, 3) := by decide +kernel
theorem dX9_seek_69 : decode cX9_seek 69 = .ok (.aload_n 0, 1) := by decide +kernel
theorem dX9_seek_70 : decode cX9_seek 70 = .ok (.aload_n 1, 1) := by decide +kernel
theorem dX9_seek_71 : decode cX9_seek 71 = .ok (.aload 6, 2) := by decide +kernel
theorem dX9_seek_73 : decode cX9_seek 73 = .ok (.iload 4, 2) := by decide +kernel
theorem dX9_seek_75 : decode cX9_seek 75 = .ok (.iload_n 3, 1) := by decide +kernel
theorem dX9_seek_76 : decode cX9_seek 76 = .ok (.invokevirtual 422, 3) := by decide +kernel
theorem dX9_seek_79 : decode cX9_seek 79 = .ok (.ifCond .eq 6, 3) := by decide +kernel
theorem dX9_seek_82 : decode cX9_seek 82 = .ok (.aload 6, 2) := by decide +kernel
theorem dX9_seek_84 : decode cX9_seek 84 = .ok (.areturn, 1) := by decide +kernel
theorem dX9_seek_85 : decode cX9_seek 85 = .ok (.iinc 5 1, 3) := by decide +kernel
theorem dX9_seek_88 : decode cX9_seek 88 = .ok (.goto (-53), 3) := by decide +kernel
theorem dX9_seek_91 : decode cX9_seek 91 = .ok (.aconst_null, 1) := by decide +kernel
theorem dX9_seek_92 : decode cX9_seek 92 = .ok (.areturn, 1) := by decide +kernel
theorem dX9_agrees_0 : decode cX9_agrees 0 = .ok (.aload_n 1, 1) := by decide +kernel
theorem dX9_agrees_1 : decode cX9_agrees 1 = .ok (.aload_n 2, 1) := by decide +kernel
theorem dX9_agrees_2 : decode cX9_agrees 2 = .ok (.iload_n 3, 1) := by decide +kernel
theorem dX9_agrees_3 : decode cX9_agrees 3 = .ok (.iload 4, 2) := by decide +kernel
theorem dX9_agrees_5 : decode cX9_agrees 5 = .ok (.invokestatic 430, 3) := by decide +kernel
theorem dX9_agrees_8 : decode cX9_agrees 8 = .ok (.istore 5, 2) := by decide +kernel
theorem dX9_agrees_10 : decode cX9_agrees 10 = .ok (.aload_n 0, 1) := by decide +kernel
theorem dX9_agrees_11 : decode cX9_agrees 11 = .ok (.getfield 59, 3) := by decide +kernel
theorem dX9_agrees_14 : decode cX9_agrees 14 = .ok (.aload_n 1, 1) := by decide +kernel
theorem dX9_agrees_15 : decode cX9_agrees 15 = .ok (.getfield 143, 3) := by decide +kernel
theorem dX9_agrees_18 : decode cX9_agrees 18 = .ok (.aload_n 2, 1) := by decide +kernel
theorem dX9_agrees_19 : decode cX9_agrees 19 = .ok (.getfield 115, 3) := by decide +kernel
theorem dX9_agrees_22 : decode cX9_agrees 22 = .ok (.iload 5, 2) := by decide +kernel
theorem dX9_agrees_24 : decode cX9_agrees 24 = .ok (.invokevirtual 420, 3) := by decide +kernel
theorem dX9_agrees_27 : decode cX9_agrees 27 = .ok (.iload 5, 2) := by decide +kernel
theorem dX9_agrees_29 : decode cX9_agrees 29 = .ok (.iconst 3, 1) := by decide +kernel
theorem dX9_agrees_30 : decode cX9_agrees 30 = .ok (.if_icmp .ne 16, 3) := by decide +kernel
theorem dX9_agrees_33 : decode cX9_agrees 33 = .ok (.aload_n 1, 1) := by decide +kernel
theorem dX9_agrees_34 : decode cX9_agrees 34 = .ok (.aload_n 2, 1) := by decide +kernel
theorem dX9_agrees_35 : decode cX9_agrees 35 = .ok (.invokestatic 426, 3) := by decide +kernel
theorem dX9_agrees_38 : decode cX9_agrees 38 = .ok (.ifCond .eq 8, 3) := by decide +kernel
theorem dX9_agrees_41 : decode cX9_agrees 41 = .ok (.aload_n 0, 1) := by decide +kernel
theorem dX9_agrees_42 : decode cX9_agrees 42 = .ok (.iconst 1, 1) := by decide +kernel
theorem dX9_agrees_43 : decode cX9_agrees 43 = .ok (.putfield 73, 3) := by decide +kernel
theorem dX9_agrees_46 : decode cX9_agrees 46 = .ok (.iload 5, 2) := by decide +kernel
theorem dX9_agrees_48 : decode cX9_agrees 48 = .ok (.iconst 4, 1) := by decide +kernel
theorem dX9_agrees_49 : decode cX9_agrees 49 = .ok (.if_icmp .ne 11, 3) := by decide +kernel
theorem dX9_agrees_52 : decode cX9_agrees 52 = .ok (.aload_n 0, 1) := by decide +kernel
theorem dX9_agrees_53 : decode cX9_agrees 53 = .ok (.getfield 46, 3) := by decide +kernel
theorem dX9_agrees_56 : decode cX9_agrees 56 = .ok (.aload_n 2, 1) := by decide +kernel
theorem dX9_agrees_57 : decode cX9_agrees 57 = .ok (.invokevirtual 434, 3) := by decide +kernel
theorem dX9_agrees_60 : decode cX9_agrees 60 = .ok (.iload 5, 2) := by decide +kernel
theorem dX9_agrees_62 : decode cX9_agrees 62 = .ok (.ifCond .ne 7, 3) := by decide +kernel
theorem dX9_agrees_65 : decode cX9_agrees 65 = .ok (.iconst 1, 1) := by decide +kernel
theorem dX9_agrees_66 : decode cX9_agrees 66 = .ok (.goto 4, 3) := by decide +kernel
theorem dX9_agrees_69 : decode cX9_agrees 69 = .ok (.iconst 0, 1) := by decide +kernel
theorem dX9_agrees_70 : decode cX9_agrees 70 = .ok (.ireturn, 1) := by decide +kernel
theorem dX9_against_0 : decode cX9_against 0 = .ok (.aload_n 1, 1) := by decide +kernel
theorem dX9_against_1 : decode cX9_against 1 = .ok (.aload_n 0, 1) := by decide +kernel
theorem dX9_against_2 : decode cX9_against 2 = .ok (.invokevirtual 260, 3) := by decide +kernel
theorem dX9_against_5 : decode cX9_against 5 = .ok (.ifCond .ne 5, 3) := by decide +kernel
theorem dX9_against_8 : decode cX9_against 8 = .ok (.iconst 1, 1) := by decide +kernel
theorem dX9_against_9 : decode cX9_against 9 = .ok (.ireturn, 1) := by decide +kernel
theorem dX9_against_10 : decode cX9_against 10 = .ok (.aload_n 1, 1) := by decide +kernel
theorem dX9_against_11 : decode cX9_against 11 = .ok (.iload_n 3, 1) := by decide +kernel
theorem dX9_against_12 : decode cX9_against 12 = .ok (.bipush 24, 2) := by decide +kernel
theorem dX9_against_14 : decode cX9_against 14 = .ok (.idiv, 1) := by decide +kernel
theorem dX9_against_15 : decode cX9_against 15 = .ok (.invokevirtual 437, 3) := by decide +kernel
theorem dX9_against_18 : decode cX9_against 18 = .ok (.ifCond .eq 5, 3) := by decide +kernel
theorem dX9_against_21 : decode cX9_against 21 = .ok (.iconst 2, 1) := by decide +kernel
theorem dX9_against_22 : decode cX9_against 22 = .ok (.ireturn, 1) := by decide +kernel
theorem dX9_against_23 : decode cX9_against 23 = .ok (.aload_n 0, 1) := by decide +kernel
theorem dX9_against_24 : decode cX9_against 24 = .ok (.aload_n 1, 1) := by decide +kernel
theorem dX9_against_25 : decode cX9_against 25 = .ok (.iload_n 2, 1) := by decide +kernel
theorem dX9_against_26 : decode cX9_against 26 = .ok (.invokestatic 440, 3) := by decide +kernel
theorem dX9_against_29 : decode cX9_against 29 = .ok (.ifCond .ne 5, 3) := by decide +kernel
theorem dX9_against_32 : decode cX9_against 32 = .ok (.iconst 3, 1) := by decide +kernel
theorem dX9_against_33 : decode cX9_against 33 = .ok (.ireturn, 1) := by decide +kernel
theorem dX9_against_34 : decode cX9_against 34 = .ok (.aload_n 1, 1) := by decide +kernel
theorem dX9_against_35 : decode cX9_against 35 = .ok (.getfield 190, 3) := by decide +kernel
theorem dX9_against_38 : decode cX9_against 38 = .ok (.ifCond .eq 7, 3) := by decide +kernel
theorem dX9_against_41 : decode cX9_against 41 = .ok (.iconst 0, 1) := by decide +kernel
theorem dX9_against_42 : decode cX9_against 42 = .ok (.goto 4, 3) := by decide +kernel
theorem dX9_against_45 : decode cX9_against 45 = .ok (.iconst 4, 1) := by decide +kernel
theorem dX9_against_46 : decode cX9_against 46 = .ok (.ireturn, 1) := by decide +kernel
theorem dX9_canBeThere_0 : decode cX9_canBeThere 0 = .ok (.aload_n 1, 1) := by decide +kernel
theorem dX9_canBeThere_1 : decode cX9_canBeThere 1 = .ok (.getfield 234, 3) := by decide +kernel
theorem dX9_canBeThere_4 : decode cX9_canBeThere 4 = .ok (.getfield 319, 3) := by decide +kernel
theorem dX9_canBeThere_7 : decode cX9_canBeThere 7 = .ok (.ifCond .ne 7, 3) := by decide +kernel
theorem dX9_canBeThere_10 : decode cX9_canBeThere 10 = .ok (.iconst 1, 1) := by decide +kernel
theorem dX9_canBeThere_11 : decode cX9_canBeThere 11 = .ok (.goto 4, 3) := by decide +kernel
theorem dX9_canBeThere_14 : decode cX9_canBeThere 14 = .ok (.iconst 0, 1) := by decide +kernel
theorem dX9_canBeThere_15 : decode cX9_canBeThere 15 = .ok (.istore_n 3, 1) := by decide +kernel
theorem dX9_canBeThere_16 : decode cX9_canBeThere 16 = .ok (.aload_n 0, 1) := by decide +kernel
theorem dX9_canBeThere_17 : decode cX9_canBeThere 17 = .ok (.getfield 238, 3) := by decide +kernel
theorem dX9_canBeThere_20 : decode cX9_canBeThere 20 = .ok (.ifCond .ne 5, 3) := by decide +kernel
theorem dX9_canBeThere_23 : decode cX9_canBeThere 23 = .ok (.iload_n 3, 1) := by decide +kernel
theorem dX9_canBeThere_24 : decode cX9_canBeThere 24 = .ok (.ireturn, 1) := by decide +kernel
theorem dX9_canBeThere_25 : decode cX9_canBeThere 25 = .ok (.aload_n 1, 1) := by decide +kernel
theorem dX9_canBeThere_26 : decode cX9_canBeThere 26 = .ok (.getfield 234, 3) := by decide +kernel
theorem dX9_canBeThere_29 : decode cX9_canBeThere 29 = .ok (.getfield 319, 3) := by decide +kernel
theorem dX9_canBeThere_32 : decode cX9_canBeThere 32 = .ok (.iconst 1, 1) := by decide +kernel
theorem dX9_canBeThere_33 : decode cX9_canBeThere 33 = .ok (.if_icmp .eq 11, 3) := by decide +kernel
theorem dX9_canBeThere_36 : decode cX9_canBeThere 36 = .ok (.iload_n 3, 1) := by decide +kernel
theorem dX9_canBeThere_37 : decode cX9_canBeThere 37 = .ok (.ifCond .eq 11, 3) := by decide +kernel
theorem dX9_canBeThere_40 : decode cX9_canBeThere 40 = .ok (.iload_n 2, 1) := by decide +kernel
theorem dX9_canBeThere_41 : decode cX9_canBeThere 41 = .ok (.ifCond .le 7, 3) := by decide +kernel
theorem dX9_canBeThere_44 : decode cX9_canBeThere 44 = .ok (.iconst 1, 1) := by decide +kernel
theorem dX9_canBeThere_45 : decode cX9_canBeThere 45 = .ok (.goto 4, 3) := by decide +kernel
theorem dX9_canBeThere_48 : decode cX9_canBeThere 48 = .ok (.iconst 0, 1) := by decide +kernel
theorem dX9_canBeThere_49 : decode cX9_canBeThere 49 = .ok (.ireturn, 1) := by decide +kernel
theorem dX9_needsSeat_0 : decode cX9_needsSeat 0 = .ok (.aload_n 0, 1) := by decide +kernel
theorem dX9_needsSeat_1 : decode cX9_needsSeat 1 = .ok (.getfield 238, 3) := by decide +kernel
theorem dX9_needsSeat_4 : decode cX9_needsSeat 4 = .ok (.ifCond .eq 17, 3) := by decide +kernel
theorem dX9_needsSeat_7 : decode cX9_needsSeat 7 = .ok (.aload_n 1, 1) := by decide +kernel
theorem dX9_needsSeat_8 : decode cX9_needsSeat 8 = .ok (.getfield 234, 3) := by decide +kernel
theorem dX9_needsSeat_11 : decode cX9_needsSeat 11 = .ok (.getfield 319, 3) := by decide +kernel
theorem dX9_needsSeat_14 : decode cX9_needsSeat 14 = .ok (.ifCond .ne 7, 3) := by decide +kernel
theorem dX9_needsSeat_17 : decode cX9_needsSeat 17 = .ok (.iconst 1, 1) := by decide +kernel
theorem dX9_needsSeat_18 : decode cX9_needsSeat 18 = .ok (.goto 4, 3) := by decide +kernel
theorem dX9_needsSeat_21 : decode cX9_needsSeat 21 = .ok (.iconst 0, 1) := by decide +kernel
theorem dX9_needsSeat_22 : decode cX9_needsSeat 22 = .ok (.ireturn, 1) := by decide +kernel
theorem dX9_depart_0 : decode cX9_depart 0 = .ok (.aload_n 1, 1) := by decide +kernel
theorem dX9_depart_1 : decode cX9_depart 1 = .ok (.getfield 221, 3) := by decide +kernel
theorem dX9_depart_4 : decode cX9_depart 4 = .ok (.iconst 1, 1) := by decide +kernel
theorem dX9_depart_5 : decode cX9_depart 5 = .ok (.putfield 343, 3) := by decide +kernel
theorem dX9_depart_8 : decode cX9_depart 8 = .ok (.aload_n 1, 1) := by decide +kernel
theorem dX9_depart_9 : decode cX9_depart 9 = .ok (.getfield 221, 3) := by decide +kernel
theorem dX9_depart_12 : decode cX9_depart 12 = .ok (.iload 4, 2) := by decide +kernel
theorem dX9_depart_14 : decode cX9_depart 14 = .ok (.putfield 346, 3) := by decide +kernel
theorem dX9_depart_17 : decode cX9_depart 17 = .ok (.aload_n 1, 1) := by decide +kernel
theorem dX9_depart_18 : decode cX9_depart 18 = .ok (.getfield 221, 3) := by decide +kernel
theorem dX9_depart_21 : decode cX9_depart 21 = .ok (.aload_n 2, 1) := by decide +kernel
theorem dX9_depart_22 : decode cX9_depart 22 = .ok (.putfield 256, 3) := by decide +kernel
theorem dX9_depart_25 : decode cX9_depart 25 = .ok (.aload_n 1, 1) := by decide +kernel
theorem dX9_depart_26 : decode cX9_depart 26 = .ok (.getfield 221, 3) := by decide +kernel
theorem dX9_depart_29 : decode cX9_depart 29 = .ok (.aload_n 3, 1) := by decide +kernel
theorem dX9_depart_30 : decode cX9_depart 30 = .ok (.putfield 349, 3) := by decide +kernel
theorem dX9_depart_33 : decode cX9_depart 33 = .ok (.aload_n 0, 1) := by decide +kernel
theorem dX9_depart_34 : decode cX9_depart 34 = .ok (.aload_n 1, 1) := by decide +kernel
theorem dX9_depart_35 : decode cX9_depart 35 = .ok (.aload_n 2, 1) := by decide +kernel
theorem dX9_depart_36 : decode cX9_depart 36 = .ok (.invokevirtual 444, 3) := by decide +kernel
theorem dX9_depart_39 : decode cX9_depart 39 = .ok (.aload_n 0, 1) := by decide +kernel
theorem dX9_depart_40 : decode cX9_depart 40 = .ok (.aload_n 1, 1) := by decide +kernel
theorem dX9_depart_41 : decode cX9_depart 41 = .ok (.aload_n 3, 1) := by decide +kernel
theorem dX9_depart_42 : decode cX9_depart 42 = .ok (.invokevirtual 444, 3) := by decide +kernel
theorem dX9_depart_45 : decode cX9_depart 45 = .ok (.aload_n 1, 1) := by decide +kernel
theorem dX9_depart_46 : decode cX9_depart 46 = .ok (.getfield 448, 3) := by decide +kernel
theorem dX9_depart_49 : decode cX9_depart 49 = .ok (.ifCond .eq 29, 3) := by decide +kernel
theorem dX9_depart_52 : decode cX9_depart 52 = .ok (.aload_n 1, 1) := by decide +kernel
theorem dX9_depart_53 : decode cX9_depart 53 = .ok (.getfield 221, 3) := by decide +kernel
theorem dX9_depart_56 : decode cX9_depart 56 = .ok (.aload_n 0, 1) := by decide +kernel
theorem dX9_depart_57 : decode cX9_depart 57 = .ok (.aload_n 1, 1) := by decide +kernel
theorem dX9_depart_58 : decode cX9_depart 58 = .ok (.iload 4, 2) := by decide +kernel
theorem dX9_depart_60 : decode cX9_depart 60 = .ok (.invokevirtual 451, 3) := by decide +kernel
theorem dX9_depart_63 : decode cX9_depart 63 = .ok (.putfield 352, 3) := by decide +kernel
theorem dX9_depart_66 : decode cX9_depart 66 = .ok (.aload_n 0, 1) := by decide +kernel
theorem dX9_depart_67 : decode cX9_depart 67 = .ok (.aload_n 1, 1) := by decide +kernel
theorem dX9_depart_68 : decode cX9_depart 68 = .ok (.aload_n 1, 1) := by decide +kernel
theorem dX9_depart_69 : decode cX9_depart 69 = .ok (.getfield 221, 3) := by decide +kernel
theorem dX9_depart_72 : decode cX9_depart 72 = .ok (.getfield 352, 3) := by decide +kernel
theorem dX9_depart_75 : decode cX9_depart 75 = .ok (.invokevirtual 444, 3) := by decide +kernel
theorem dX9_depart_78 : decode cX9_depart 78 = .ok (.return_, 1) := by decide +kernel
theorem dX9_board_0 : decode cX9_board 0 = .ok (.aload_n 2, 1) := by decide +kernel
theorem dX9_board_1 : decode cX9_board 1 = .ok (.ifnonnull 4, 3) := by decide +kernel
theorem dX9_board_4 : decode cX9_board 4 = .ok (.return_, 1) := by decide +kernel
theorem dX9_board_5 : decode cX9_board 5 = .ok (.aload_n 1, 1) := by decide +kernel
theorem dX9_board_6 : decode cX9_board 6 = .ok (.aload_n 2, 1) := by decide +kernel
theorem dX9_board_7 : decode cX9_board 7 = .ok (.invokestatic 426, 3) := by decide +kernel
theorem dX9_board_10 : decode cX9_board 10 = .ok (.ifCond .eq 13, 3) := by decide +kernel
theorem dX9_board_13 : decode cX9_board 13 = .ok (.aload_n 0, 1) := by decide +kernel
theorem dX9_board_14 : decode cX9_board 14 = .ok (.dup, 1) := by decide +kernel
theorem dX9_board_15 : decode cX9_board 15 = .ok (.getfield 70, 3) := by decide +kernel
theorem dX9_board_18 : decode cX9_board 18 = .ok (.iconst 1, 1) := by decide +kernel
theorem dX9_board_19 : decode cX9_board 19 = .ok (.isub, 1) := by decide +kernel
theorem dX9_board_20 : decode cX9_board 20 = .ok (.putfield 70, 3) := by decide +kernel
theorem dX9_board_23 : decode cX9_board 23 = .ok (.aload_n 0, 1) := by decide +kernel
theorem dX9_board_24 : decode cX9_board 24 = .ok (.getfield 46, 3) := by decide +kernel
theorem dX9_board_27 : decode cX9_board 27 = .ok (.aload_n 2, 1) := by decide +kernel
theorem dX9_board_28 : decode cX9_board 28 = .ok (.invokevirtual 454, 3) := by decide +kernel
theorem dX9_board_31 : decode cX9_board 31 = .ok (.aload_n 2, 1) := by decide +kernel
theorem dX9_board_32 : decode cX9_board 32 = .ok (.getfield 234, 3) := by decide +kernel
theorem dX9_board_35 : decode cX9_board 35 = .ok (.aload_n 1, 1) := by decide +kernel
theorem dX9_board_36 : decode cX9_board 36 = .ok (.invokevirtual 264, 3) := by decide +kernel
theorem dX9_board_39 : decode cX9_board 39 = .ok (.return_, 1) := by decide +kernel
theorem dX9_findLearner_0 : decode cX9_findLearner 0 = .ok (.iconst 0, 1) := by decide +kernel
theorem dX9_findLearner_1 : decode cX9_findLearner 1 = .ok (.istore_n 3, 1) := by decide +kernel
theorem dX9_findLearner_2 : decode cX9_findLearner 2 = .ok (.iload_n 3, 1) := by decide +kernel
theorem dX9_findLearner_3 : decode cX9_findLearner 3 = .ok (.aload_n 0, 1) := by decide +kernel
theorem dX9_findLearner_4 : decode cX9_findLearner 4 = .ok (.getfield 46, 3) := by decide +kernel
theorem dX9_findLearner_7 : decode cX9_findLearner 7 = .ok (.invokevirtual 383, 3) := by decide +kernel
theorem dX9_findLearner_10 : decode cX9_findLearner 10 = .ok (.if_icmp .ge 69, 3) := by decide +kernel
theorem dX9_findLearner_13 : decode cX9_findLearner 13 = .ok (.aload_n 0, 1) := by decide +kernel
theorem dX9_findLearner_14 : decode cX9_findLearner 14 = .ok (.getfield 46, 3) := by decide +kernel
theorem dX9_findLearner_17 : decode cX9_findLearner 17 = .ok (.iload_n 3, 1) := by decide +kernel
theorem dX9_findLearner_18 : decode cX9_findLearner 18 = .ok (.invokevirtual 301, 3) := by decide +kernel
theorem dX9_findLearner_21 : decode cX9_findLearner 21 = .ok (.astore 4, 2) := by decide +kernel
theorem dX9_findLearner_23 : decode cX9_findLearner 23 = .ok (.aload 4, 2) := by decide +kernel
theorem dX9_findLearner_25 : decode cX9_findLearner 25 = .ok (.ifnull 48, 3) := by decide +kernel
theorem dX9_findLearner_28 : decode cX9_findLearner 28 = .ok (.aload 4, 2) := by decide +kernel
theorem dX9_findLearner_30 : decode cX9_findLearner 30 = .ok (.getfield 312, 3) := by decide +kernel
theorem dX9_findLearner_33 : decode cX9_findLearner 33 = .ok (.iconst 2, 1) := by decide +kernel
theorem dX9_findLearner_34 : decode cX9_findLearner 34 = .ok (.if_icmp .ne 39, 3) := by decide +kernel
theorem dX9_findLearner_37 : decode cX9_findLearner 37 = .ok (.aload 4, 2) := by decide +kernel
theorem dX9_findLearner_39 : decode cX9_findLearner 39 = .ok (.getfield 190, 3) := by decide +kernel
theorem dX9_findLearner_42 : decode cX9_findLearner 42 = .ok (.ifCond .eq 31, 3) := by decide +kernel
theorem dX9_findLearner_45 : decode cX9_findLearner 45 = .ok (.aload 4, 2) := by decide +kernel
theorem dX9_findLearner_47 : decode cX9_findLearner 47 = .ok (.iload_n 2, 1) := by decide +kernel
theorem dX9_findLearner_48 : decode cX9_findLearner 48 = .ok (.bipush 24, 2) := by decide +kernel
theorem dX9_findLearner_50 : decode cX9_findLearner 50 = .ok (.idiv, 1) := by decide +kernel
theorem dX9_findLearner_51 : decode cX9_findLearner 51 = .ok (.invokevirtual 437, 3) := by decide +kernel
theorem dX9_findLearner_54 : decode cX9_findLearner 54 = .ok (.ifCond .ne 19, 3) := by decide +kernel
theorem dX9_findLearner_57 : decode cX9_findLearner 57 = .ok (.aload_n 1, 1) := by decide +kernel
theorem dX9_findLearner_58 : decode cX9_findLearner 58 = .ok (.aload 4, 2) := by decide +kernel
theorem dX9_findLearner_60 : decode cX9_findLearner 60 = .ok (.aload_n 0, 1) := by decide +kernel
theorem dX9_findLearner_61 : decode cX9_findLearner 61 = .ok (.getfield 70, 3) := by decide +kernel
theorem dX9_findLearner_64 : decode cX9_findLearner 64 = .ok (.invokestatic 440, 3) := by decide +kernel
theorem dX9_findLearner_67 : decode cX9_findLearner 67 = .ok (.ifCond .eq 6, 3) := by decide +kernel
theorem dX9_findLearner_70 : decode cX9_findLearner 70 = .ok (.aload 4, 2) := by decide +kernel
theorem dX9_findLearner_72 : decode cX9_findLearner 72 = .ok (.areturn, 1) := by decide +kernel
theorem dX9_findLearner_73 : decode cX9_findLearner 73 = .ok (.iinc 3 1, 3) := by decide +kernel
theorem dX9_findLearner_76 : decode cX9_findLearner 76 = .ok (.goto (-74), 3) := by decide +kernel
theorem dX9_findLearner_79 : decode cX9_findLearner 79 = .ok (.aconst_null, 1) := by decide +kernel
theorem dX9_findLearner_80 : decode cX9_findLearner 80 = .ok (.areturn, 1) := by decide +kernel
theorem dX9_bringBackFromPost_0 : decode cX9_bringBackFromPost 0 = .ok (.aload_n 0, 1) := by decide +kernel
theorem dX9_bringBackFromPost_1 : decode cX9_bringBackFromPost 1 = .ok (.getfield 32, 3) := by decide +kernel
theorem dX9_bringBackFromPost_4 : decode cX9_bringBackFromPost 4 = .ok (.aload_n 0, 1) := by decide +kernel
theorem dX9_bringBackFromPost_5 : decode cX9_bringBackFromPost 5 = .ok (.getfield 63, 3) := by decide +kernel
theorem dX9_bringBackFromPost_8 : decode cX9_bringBackFromPost 8 = .ok (.invokevirtual 298, 3) := by decide +kernel
theorem dX9_bringBackFromPost_11 : decode cX9_bringBackFromPost 11 = .ok (.istore_n 1, 1) := by decide +kernel
theorem dX9_bringBackFromPost_12 : decode cX9_bringBackFromPost 12 = .ok (.iconst 0, 1) := by decide +kernel
theorem dX9_bringBackFromPost_13 : decode cX9_bringBackFromPost 13 = .ok (.istore_n 2, 1) := by decide +kernel
theorem dX9_bringBackFromPost_14 : decode cX9_bringBackFromPost 14 = .ok (.iload_n 2, 1) := by decide +kernel
theorem dX9_bringBackFromPost_15 : decode cX9_bringBackFromPost 15 = .ok (.iload_n 1, 1) := by decide +kernel
theorem dX9_bringBackFromPost_16 : decode cX9_bringBackFromPost 16 = .ok (.if_icmp .ge 33, 3) := by decide +kernel
theorem dX9_bringBackFromPost_19 : decode cX9_bringBackFromPost 19 = .ok (.aload_n 0, 1) := by decide +kernel
theorem dX9_bringBackFromPost_20 : decode cX9_bringBackFromPost 20 = .ok (.invokevirtual 457, 3) := by decide +kernel
theorem dX9_bringBackFromPost_23 : decode cX9_bringBackFromPost 23 = .ok (.astore_n 3, 1) := by decide +kernel
theorem dX9_bringBackFromPost_24 : decode cX9_bringBackFromPost 24 = .ok (.aload_n 3, 1) := by decide +kernel
theorem dX9_bringBackFromPost_25 : decode cX9_bringBackFromPost 25 = .ok (.ifnonnull 4, 3) := by decide +kernel
theorem dX9_bringBackFromPost_28 : decode cX9_bringBackFromPost 28 = .ok (.return_, 1) := by decide +kernel
theorem dX9_bringBackFromPost_29 : decode cX9_bringBackFromPost 29 = .ok (.aload_n 3, 1) := by decide +kernel
theorem dX9_bringBackFromPost_30 : decode cX9_bringBackFromPost 30 = .ok (.getfield 234, 3) := by decide +kernel
theorem dX9_bringBackFromPost_33 : decode cX9_bringBackFromPost 33 = .ok (.iconst 0, 1) := by decide +kernel
theorem dX9_bringBackFromPost_34 : decode cX9_bringBackFromPost 34 = .ok (.aload_n 0, 1) := by decide +kernel
theorem dX9_bringBackFromPost_35 : decode cX9_bringBackFromPost 35 = .ok (.getfield 63, 3) := by decide +kernel
theorem dX9_bringBackFromPost_38 : decode cX9_bringBackFromPost 38 = .ok (.iconst 1, 1) := by decide +kernel
theorem dX9_bringBackFromPost_39 : decode cX9_bringBackFromPost 39 = .ok (.iadd, 1) := by decide +kernel
theorem dX9_bringBackFromPost_40 : decode cX9_bringBackFromPost 40 = .ok (.invokevirtual 241, 3) := by decide +kernel
theorem dX9_bringBackFromPost_43 : decode cX9_bringBackFromPost 43 = .ok (.iinc 2 1, 3) := by decide +kernel
theorem dX9_bringBackFromPost_46 : decode cX9_bringBackFromPost 46 = .ok (.goto (-32), 3) := by decide +kernel
theorem dX9_bringBackFromPost_49 : decode cX9_bringBackFromPost 49 = .ok (.return_, 1) := by decide +kernel
theorem dX9_longestAtPost_0 : decode cX9_longestAtPost 0 = .ok (.aconst_null, 1) := by decide +kernel
theorem dX9_longestAtPost_1 : decode cX9_longestAtPost 1 = .ok (.astore_n 1, 1) := by decide +kernel
theorem dX9_longestAtPost_2 : decode cX9_longestAtPost 2 = .ok (.iconst 0, 1) := by decide +kernel
theorem dX9_longestAtPost_3 : decode cX9_longestAtPost 3 = .ok (.istore_n 2, 1) := by decide +kernel
theorem dX9_longestAtPost_4 : decode cX9_longestAtPost 4 = .ok (.iload_n 2, 1) := by decide +kernel
theorem dX9_longestAtPost_5 : decode cX9_longestAtPost 5 = .ok (.aload_n 0, 1) := by decide +kernel
theorem dX9_longestAtPost_6 : decode cX9_longestAtPost 6 = .ok (.getfield 12, 3) := by decide +kernel
theorem dX9_longestAtPost_9 : decode cX9_longestAtPost 9 = .ok (.invokevirtual 93, 3) := by decide +kernel
theorem dX9_longestAtPost_12 : decode cX9_longestAtPost 12 = .ok (.if_icmp .ge 55, 3) := by decide +kernel
theorem dX9_longestAtPost_15 : decode cX9_longestAtPost 15 = .ok (.aload_n 0, 1) := by decide +kernel
theorem dX9_longestAtPost_16 : decode cX9_longestAtPost 16 = .ok (.getfield 12, 3) := by decide +kernel
theorem dX9_longestAtPost_19 : decode cX9_longestAtPost 19 = .ok (.iload_n 2, 1) := by decide +kernel
theorem dX9_longestAtPost_20 : decode cX9_longestAtPost 20 = .ok (.invokevirtual 268, 3) := by decide +kernel
theorem dX9_longestAtPost_23 : decode cX9_longestAtPost 23 = .ok (.checkcast 102, 3) := by decide +kernel
theorem dX9_longestAtPost_26 : decode cX9_longestAtPost 26 = .ok (.astore_n 3, 1) := by decide +kernel
theorem dX9_longestAtPost_27 : decode cX9_longestAtPost 27 = .ok (.aload_n 3, 1) := by decide +kernel
theorem dX9_longestAtPost_28 : decode cX9_longestAtPost 28 = .ok (.getfield 234, 3) := by decide +kernel
theorem dX9_longestAtPost_31 : decode cX9_longestAtPost 31 = .ok (.getfield 319, 3) := by decide +kernel
theorem dX9_longestAtPost_34 : decode cX9_longestAtPost 34 = .ok (.iconst 1, 1) := by decide +kernel
theorem dX9_longestAtPost_35 : decode cX9_longestAtPost 35 = .ok (.if_icmp .ne 26, 3) := by decide +kernel
theorem dX9_longestAtPost_38 : decode cX9_longestAtPost 38 = .ok (.aload_n 1, 1) := by decide +kernel
theorem dX9_longestAtPost_39 : decode cX9_longestAtPost 39 = .ok (.ifnull 20, 3) := by decide +kernel
theorem dX9_longestAtPost_42 : decode cX9_longestAtPost 42 = .ok (.aload_n 3, 1) := by decide +kernel
theorem dX9_longestAtPost_43 : decode cX9_longestAtPost 43 = .ok (.getfield 234, 3) := by decide +kernel
theorem dX9_longestAtPost_46 : decode cX9_longestAtPost 46 = .ok (.getfield 461, 3) := by decide +kernel
theorem dX9_longestAtPost_49 : decode cX9_longestAtPost 49 = .ok (.aload_n 1, 1) := by decide +kernel
theorem dX9_longestAtPost_50 : decode cX9_longestAtPost 50 = .ok (.getfield 234, 3) := by decide +kernel
theorem dX9_longestAtPost_53 : decode cX9_longestAtPost 53 = .ok (.getfield 461, 3) := by decide +kernel
theorem dX9_longestAtPost_56 : decode cX9_longestAtPost 56 = .ok (.if_icmp .ge 5, 3) := by decide +kernel
theorem dX9_longestAtPost_59 : decode cX9_longestAtPost 59 = .ok (.aload_n 3, 1) := by decide +kernel
theorem dX9_longestAtPost_60 : decode cX9_longestAtPost 60 = .ok (.astore_n 1, 1) := by decide +kernel
theorem dX9_longestAtPost_61 : decode cX9_longestAtPost 61 = .ok (.iinc 2 1, 3) := by decide +kernel
theorem dX9_longestAtPost_64 : decode cX9_longestAtPost 64 = .ok (.goto (-60), 3) := by decide +kernel
theorem dX9_longestAtPost_67 : decode cX9_longestAtPost 67 = .ok (.aload_n 1, 1) := by decide +kernel
theorem dX9_longestAtPost_68 : decode cX9_longestAtPost 68 = .ok (.areturn, 1) := by decide +kernel
theorem dX9_endShips_0 : decode cX9_endShips 0 = .ok (.iconst 0, 1) := by decide +kernel
theorem dX9_endShips_1 : decode cX9_endShips 1 = .ok (.istore_n 1, 1) := by decide +kernel
theorem dX9_endShips_2 : decode cX9_endShips 2 = .ok (.iload_n 1, 1) := by decide +kernel
theorem dX9_endShips_3 : decode cX9_endShips 3 = .ok (.aload_n 0, 1) := by decide +kernel
theorem dX9_endShips_4 : decode cX9_endShips 4 = .ok (.getfield 16, 3) := by decide +kernel
theorem dX9_endShips_7 : decode cX9_endShips 7 = .ok (.invokevirtual 93, 3) := by decide +kernel
theorem dX9_endShips_10 : decode cX9_endShips 10 = .ok (.if_icmp .ge 95, 3) := by decide +kernel
theorem dX9_endShips_13 : decode cX9_endShips 13 = .ok (.aload_n 0, 1) := by decide +kernel
theorem dX9_endShips_14 : decode cX9_endShips 14 = .ok (.getfield 16, 3) := by decide +kernel
theorem dX9_endShips_17 : decode cX9_endShips 17 = .ok (.iload_n 1, 1) := by decide +kernel
theorem dX9_endShips_18 : decode cX9_endShips 18 = .ok (.invokevirtual 268, 3) := by decide +kernel
theorem dX9_endShips_21 : decode cX9_endShips 21 = .ok (.checkcast 131, 3) := by decide +kernel
theorem dX9_endShips_24 : decode cX9_endShips 24 = .ok (.astore_n 2, 1) := by decide +kernel
theorem dX9_endShips_25 : decode cX9_endShips 25 = .ok (.aload_n 2, 1) := by decide +kernel
theorem dX9_endShips_26 : decode cX9_endShips 26 = .ok (.getfield 221, 3) := by decide +kernel
theorem dX9_endShips_29 : decode cX9_endShips 29 = .ok (.getfield 343, 3) := by decide +kernel
theorem dX9_endShips_32 : decode cX9_endShips 32 = .ok (.iconst 1, 1) := by decide +kernel
theorem dX9_endShips_33 : decode cX9_endShips 33 = .ok (.if_icmp .ne 66, 3) := by decide +kernel
theorem dX9_endShips_36 : decode cX9_endShips 36 = .ok (.aload_n 2, 1) := by decide +kernel
theorem dX9_endShips_37 : decode cX9_endShips 37 = .ok (.getfield 221, 3) := by decide +kernel
theorem dX9_endShips_40 : decode cX9_endShips 40 = .ok (.getfield 346, 3) := by decide +kernel
theorem dX9_endShips_43 : decode cX9_endShips 43 = .ok (.aload_n 2, 1) := by decide +kernel
theorem dX9_endShips_44 : decode cX9_endShips 44 = .ok (.invokevirtual 464, 3) := by decide +kernel
theorem dX9_endShips_47 : decode cX9_endShips 47 = .ok (.iadd, 1) := by decide +kernel
theorem dX9_endShips_48 : decode cX9_endShips 48 = .ok (.aload_n 0, 1) := by decide +kernel
theorem dX9_endShips_49 : decode cX9_endShips 49 = .ok (.getfield 63, 3) := by decide +kernel
theorem dX9_endShips_52 : decode cX9_endShips 52 = .ok (.if_icmp .ne 47, 3) := by decide +kernel
theorem dX9_endShips_55 : decode cX9_endShips 55 = .ok (.aload_n 2, 1) := by decide +kernel
theorem dX9_endShips_56 : decode cX9_endShips 56 = .ok (.getfield 221, 3) := by decide +kernel
theorem dX9_endShips_59 : decode cX9_endShips 59 = .ok (.iconst 2, 1) := by decide +kernel
theorem dX9_endShips_60 : decode cX9_endShips 60 = .ok (.putfield 343, 3) := by decide +kernel
theorem dX9_endShips_63 : decode cX9_endShips 63 = .ok (.aload_n 0, 1) := by decide +kernel
theorem dX9_endShips_64 : decode cX9_endShips 64 = .ok (.aload_n 2, 1) := by decide +kernel
theorem dX9_endShips_65 : decode cX9_endShips 65 = .ok (.aload_n 2, 1) := by decide +kernel
theorem dX9_endShips_66 : decode cX9_endShips 66 = .ok (.getfield 221, 3) := by decide +kernel
theorem dX9_endShips_69 : decode cX9_endShips 69 = .ok (.getfield 256, 3) := by decide +kernel
theorem dX9_endShips_72 : decode cX9_endShips 72 = .ok (.invokevirtual 467, 3) := by decide +kernel
theorem dX9_endShips_75 : decode cX9_endShips 75 = .ok (.aload_n 0, 1) := by decide +kernel
theorem dX9_endShips_76 : decode cX9_endShips 76 = .ok (.aload_n 2, 1) := by decide +kernel
theorem dX9_endShips_77 : decode cX9_endShips 77 = .ok (.aload_n 2, 1) := by decide +kernel
theorem dX9_endShips_78 : decode cX9_endShips 78 = .ok (.getfield 221, 3) := by decide +kernel
theorem dX9_endShips_81 : decode cX9_endShips 81 = .ok (.getfield 349, 3) := by decide +kernel
theorem dX9_endShips_84 : decode cX9_endShips 84 = .ok (.invokevirtual 467, 3) := by decide +kernel
theorem dX9_endShips_87 : decode cX9_endShips 87 = .ok (.aload_n 0, 1) := by decide +kernel
theorem dX9_endShips_88 : decode cX9_endShips 88 = .ok (.aload_n 2, 1) := by decide +kernel
theorem dX9_endShips_89 : decode cX9_endShips 89 = .ok (.aload_n 2, 1) := by decide +kernel
theorem dX9_endShips_90 : decode cX9_endShips 90 = .ok (.getfield 221, 3) := by decide +kernel
theorem dX9_endShips_93 : decode cX9_endShips 93 = .ok (.getfield 352, 3) := by decide +kernel
theorem dX9_endShips_96 : decode cX9_endShips 96 = .ok (.invokevirtual 467, 3) := by decide +kernel
theorem dX9_endShips_99 : decode cX9_endShips 99 = .ok (.iinc 1 1, 3) := by decide +kernel
theorem dX9_endShips_102 : decode cX9_endShips 102 = .ok (.goto (-100), 3) := by decide +kernel
theorem dX9_endShips_105 : decode cX9_endShips 105 = .ok (.return_, 1) := by decide +kernel
theorem dX9_endDuty_0 : decode cX9_endDuty 0 = .ok (.aload_n 2, 1) := by decide +kernel
theorem dX9_endDuty_1 : decode cX9_endDuty 1 = .ok (.ifnonnull 4, 3) := by decide +kernel
theorem dX9_endDuty_4 : decode cX9_endDuty 4 = .ok (.return_, 1) := by decide +kernel
theorem dX9_endDuty_5 : decode cX9_endDuty 5 = .ok (.aload_n 2, 1) := by decide +kernel
theorem dX9_endDuty_6 : decode cX9_endDuty 6 = .ok (.getfield 234, 3) := by decide +kernel
theorem dX9_endDuty_9 : decode cX9_endDuty 9 = .ok (.astore_n 3, 1) := by decide +kernel
theorem dX9_endDuty_10 : decode cX9_endDuty 10 = .ok (.aload_n 2, 1) := by decide +kernel
theorem dX9_endDuty_11 : decode cX9_endDuty 11 = .ok (.aload_n 1, 1) := by decide +kernel
theorem dX9_endDuty_12 : decode cX9_endDuty 12 = .ok (.getfield 221, 3) := by decide +kernel
theorem dX9_endDuty_15 : decode cX9_endDuty 15 = .ok (.getfield 352, 3) := by decide +kernel
theorem dX9_endDuty_18 : decode cX9_endDuty 18 = .ok (.if_acmp .eq 26, 3) := by decide +kernel
theorem dX9_endDuty_21 : decode cX9_endDuty 21 = .ok (.aload_n 3, 1) := by decide +kernel
theorem dX9_endDuty_22 : decode cX9_endDuty 22 = .ok (.dup, 1) := by decide +kernel
theorem dX9_endDuty_23 : decode cX9_endDuty 23 = .ok (.getfield 325, 3) := by decide +kernel
theorem dX9_endDuty_26 : decode cX9_endDuty 26 = .ok (.iconst 1, 1) := by decide +kernel
theorem dX9_endDuty_27 : decode cX9_endDuty 27 = .ok (.iadd, 1) := by decide +kernel
theorem dX9_endDuty_28 : decode cX9_endDuty 28 = .ok (.putfield 325, 3) := by decide +kernel
theorem dX9_endDuty_31 : decode cX9_endDuty 31 = .ok (.aload_n 3, 1) := by decide +kernel
theorem dX9_endDuty_32 : decode cX9_endDuty 32 = .ok (.dup, 1) := by decide +kernel
theorem dX9_endDuty_33 : decode cX9_endDuty 33 = .ok (.getfield 328, 3) := by decide +kernel
theorem dX9_endDuty_36 : decode cX9_endDuty 36 = .ok (.aload_n 1, 1) := by decide +kernel
theorem dX9_endDuty_37 : decode cX9_endDuty 37 = .ok (.invokevirtual 464, 3) := by decide +kernel
theorem dX9_endDuty_40 : decode cX9_endDuty 40 = .ok (.iadd, 1) := by decide +kernel
theorem dX9_endDuty_41 : decode cX9_endDuty 41 = .ok (.putfield 328, 3) := by decide +kernel
theorem dX9_endDuty_44 : decode cX9_endDuty 44 = .ok (.aload_n 3, 1) := by decide +kernel
theorem dX9_endDuty_45 : decode cX9_endDuty 45 = .ok (.getfield 470, 3) := by decide +kernel
theorem dX9_endDuty_48 : decode cX9_endDuty 48 = .ok (.iconst (-1), 1) := by decide +kernel
theorem dX9_endDuty_49 : decode cX9_endDuty 49 = .ok (.if_icmp .eq 21, 3) := by decide +kernel
theorem dX9_endDuty_52 : decode cX9_endDuty 52 = .ok (.aload_n 0, 1) := by decide +kernel
theorem dX9_endDuty_53 : decode cX9_endDuty 53 = .ok (.getfield 63, 3) := by decide +kernel
theorem dX9_endDuty_56 : decode cX9_endDuty 56 = .ok (.aload_n 3, 1) := by decide +kernel
theorem dX9_endDuty_57 : decode cX9_endDuty 57 = .ok (.getfield 470, 3) := by decide +kernel
theorem dX9_endDuty_60 : decode cX9_endDuty 60 = .ok (.isub, 1) := by decide +kernel
theorem dX9_endDuty_61 : decode cX9_endDuty 61 = .ok (.bipush 24, 2) := by decide +kernel
theorem dX9_endDuty_63 : decode cX9_endDuty 63 = .ok (.if_icmp .ge 7, 3) := by decide +kernel
theorem dX9_endDuty_66 : decode cX9_endDuty 66 = .ok (.iconst 1, 1) := by decide +kernel
theorem dX9_endDuty_67 : decode cX9_endDuty 67 = .ok (.goto 4, 3) := by decide +kernel
theorem dX9_endDuty_70 : decode cX9_endDuty 70 = .ok (.iconst 0, 1) := by decide +kernel
theorem dX9_endDuty_71 : decode cX9_endDuty 71 = .ok (.istore 4, 2) := by decide +kernel
theorem dX9_endDuty_73 : decode cX9_endDuty 73 = .ok (.aload_n 3, 1) := by decide +kernel
theorem dX9_endDuty_74 : decode cX9_endDuty 74 = .ok (.aload_n 0, 1) := by decide +kernel
theorem dX9_endDuty_75 : decode cX9_endDuty 75 = .ok (.getfield 63, 3) := by decide +kernel
theorem dX9_endDuty_78 : decode cX9_endDuty 78 = .ok (.aload_n 0, 1) := by decide +kernel
theorem dX9_endDuty_79 : decode cX9_endDuty 79 = .ok (.getfield 39, 3) := by decide +kernel
theorem dX9_endDuty_82 : decode cX9_endDuty 82 = .ok (.aload_n 1, 1) := by decide +kernel
theorem dX9_endDuty_83 : decode cX9_endDuty 83 = .ok (.invokestatic 473, 3) := by decide +kernel
theorem dX9_endDuty_86 : decode cX9_endDuty 86 = .ok (.iload 4, 2) := by decide +kernel
theorem dX9_endDuty_88 : decode cX9_endDuty 88 = .ok (.invokevirtual 476, 3) := by decide +kernel
theorem dX9_endDuty_91 : decode cX9_endDuty 91 = .ok (.iadd, 1) := by decide +kernel
theorem dX9_endDuty_92 : decode cX9_endDuty 92 = .ok (.putfield 322, 3) := by decide +kernel
theorem dX9_endDuty_95 : decode cX9_endDuty 95 = .ok (.aload_n 3, 1) := by decide +kernel
theorem dX9_endDuty_96 : decode cX9_endDuty 96 = .ok (.aload_n 0, 1) := by decide +kernel
theorem dX9_endDuty_97 : decode cX9_endDuty 97 = .ok (.getfield 63, 3) := by decide +kernel
theorem dX9_endDuty_100 : decode cX9_endDuty 100 = .ok (.putfield 470, 3) := by decide +kernel
theorem dX9_endDuty_103 : decode cX9_endDuty 103 = .ok (.aload_n 1, 1) := by decide +kernel
theorem dX9_endDuty_104 : decode cX9_endDuty 104 = .ok (.getfield 238, 3) := by decide +kernel
theorem dX9_endDuty_107 : decode cX9_endDuty 107 = .ok (.ifCond .ne 15, 3) := by decide +kernel
theorem dX9_endDuty_110 : decode cX9_endDuty 110 = .ok (.aload_n 3, 1) := by decide +kernel
theorem dX9_endDuty_111 : decode cX9_endDuty 111 = .ok (.iconst 1, 1) := by decide +kernel
theorem dX9_endDuty_112 : decode cX9_endDuty 112 = .ok (.aload_n 0, 1) := by decide +kernel
theorem dX9_endDuty_113 : decode cX9_endDuty 113 = .ok (.getfield 63, 3) := by decide +kernel
theorem dX9_endDuty_116 : decode cX9_endDuty 116 = .ok (.invokevirtual 241, 3) := by decide +kernel
theorem dX9_endDuty_119 : decode cX9_endDuty 119 = .ok (.goto 35, 3) := by decide +kernel
theorem dX9_endDuty_122 : decode cX9_endDuty 122 = .ok (.aload_n 0, 1) := by decide +kernel
theorem dX9_endDuty_123 : decode cX9_endDuty 123 = .ok (.getfield 67, 3) := by decide +kernel
theorem dX9_endDuty_126 : decode cX9_endDuty 126 = .ok (.ifCond .ne 15, 3) := by decide +kernel
theorem dX9_endDuty_129 : decode cX9_endDuty 129 = .ok (.aload_n 3, 1) := by decide +kernel
theorem dX9_endDuty_130 : decode cX9_endDuty 130 = .ok (.iconst 0, 1) := by decide +kernel
theorem dX9_endDuty_131 : decode cX9_endDuty 131 = .ok (.aload_n 0, 1) := by decide +kernel
theorem dX9_endDuty_132 : decode cX9_endDuty 132 = .ok (.getfield 63, 3) := by decide +kernel
theorem dX9_endDuty_135 : decode cX9_endDuty 135 = .ok (.invokevirtual 241, 3) := by decide +kernel
theorem dX9_endDuty_138 : decode cX9_endDuty 138 = .ok (.goto 16, 3) := by decide +kernel
theorem dX9_endDuty_141 : decode cX9_endDuty 141 = .ok (.aload_n 3, 1) := by decide +kernel
theorem dX9_endDuty_142 : decode cX9_endDuty 142 = .ok (.aload_n 0, 1) := by decide +kernel
theorem dX9_endDuty_143 : decode cX9_endDuty 143 = .ok (.getfield 63, 3) := by decide +kernel
theorem dX9_endDuty_146 : decode cX9_endDuty 146 = .ok (.aload_n 0, 1) := by decide +kernel
theorem dX9_endDuty_147 : decode cX9_endDuty 147 = .ok (.getfield 67, 3) := by decide +kernel
theorem dX9_endDuty_150 : decode cX9_endDuty 150 = .ok (.iadd, 1) := by decide +kernel
theorem dX9_endDuty_151 : decode cX9_endDuty 151 = .ok (.invokevirtual 480, 3) := by decide +kernel
theorem dX9_endDuty_154 : decode cX9_endDuty 154 = .ok (.return_, 1) := by decide +kernel
theorem dX9_ledByNight_0 : decode cX9_ledByNight 0 = .ok (.iconst 0, 1) := by decide +kernel
theorem dX9_ledByNight_1 : decode cX9_ledByNight 1 = .ok (.istore_n 1, 1) := by decide +kernel
theorem dX9_ledByNight_2 : decode cX9_ledByNight 2 = .ok (.iload_n 1, 1) := by decide +kernel
theorem dX9_ledByNight_3 : decode cX9_ledByNight 3 = .ok (.aload_n 0, 1) := by decide +kernel
theorem dX9_ledByNight_4 : decode cX9_ledByNight 4 = .ok (.invokevirtual 464, 3) := by decide +kernel
theorem dX9_ledByNight_7 : decode cX9_ledByNight 7 = .ok (.if_icmp .ge 26, 3) := by decide +kernel
theorem dX9_ledByNight_10 : decode cX9_ledByNight 10 = .ok (.aload_n 0, 1) := by decide +kernel
theorem dX9_ledByNight_11 : decode cX9_ledByNight 11 = .ok (.getfield 221, 3) := by decide +kernel
theorem dX9_ledByNight_14 : decode cX9_ledByNight 14 = .ok (.getfield 346, 3) := by decide +kernel
theorem dX9_ledByNight_17 : decode cX9_ledByNight 17 = .ok (.iload_n 1, 1) := by decide +kernel
theorem dX9_ledByNight_18 : decode cX9_ledByNight 18 = .ok (.iadd, 1) := by decide +kernel
theorem dX9_ledByNight_19 : decode cX9_ledByNight 19 = .ok (.invokestatic 483, 3) := by decide +kernel
theorem dX9_ledByNight_22 : decode cX9_ledByNight 22 = .ok (.ifCond .eq 5, 3) := by decide +kernel
theorem dX9_ledByNight_25 : decode cX9_ledByNight 25 = .ok (.iconst 1, 1) := by decide +kernel
theorem dX9_ledByNight_26 : decode cX9_ledByNight 26 = .ok (.ireturn, 1) := by decide +kernel
theorem dX9_ledByNight_27 : decode cX9_ledByNight 27 = .ok (.iinc 1 1, 3) := by decide +kernel
theorem dX9_ledByNight_30 : decode cX9_ledByNight 30 = .ok (.goto (-28), 3) := by decide +kernel
theorem dX9_ledByNight_33 : decode cX9_ledByNight 33 = .ok (.iconst 0, 1) := by decide +kernel
theorem dX9_ledByNight_34 : decode cX9_ledByNight 34 = .ok (.ireturn, 1) := by decide +kernel
theorem dX9_endRoads_0 : decode cX9_endRoads 0 = .ok (.iconst 0, 1) := by decide +kernel
theorem dX9_endRoads_1 : decode cX9_endRoads 1 = .ok (.istore_n 1, 1) := by decide +kernel
theorem dX9_endRoads_2 : decode cX9_endRoads 2 = .ok (.iload_n 1, 1) := by decide +kernel
theorem dX9_endRoads_3 : decode cX9_endRoads 3 = .ok (.aload_n 0, 1) := by decide +kernel
theorem dX9_endRoads_4 : decode cX9_endRoads 4 = .ok (.getfield 12, 3) := by decide +kernel
theorem dX9_endRoads_7 : decode cX9_endRoads 7 = .ok (.invokevirtual 93, 3) := by decide +kernel
theorem dX9_endRoads_10 : decode cX9_endRoads 10 = .ok (.if_icmp .ge 52, 3) := by decide +kernel
theorem dX9_endRoads_13 : decode cX9_endRoads 13 = .ok (.aload_n 0, 1) := by decide +kernel
theorem dX9_endRoads_14 : decode cX9_endRoads 14 = .ok (.getfield 12, 3) := by decide +kernel
theorem dX9_endRoads_17 : decode cX9_endRoads 17 = .ok (.iload_n 1, 1) := by decide +kernel
theorem dX9_endRoads_18 : decode cX9_endRoads 18 = .ok (.invokevirtual 268, 3) := by decide +kernel
theorem dX9_endRoads_21 : decode cX9_endRoads 21 = .ok (.checkcast 102, 3) := by decide +kernel
theorem dX9_endRoads_24 : decode cX9_endRoads 24 = .ok (.getfield 234, 3) := by decide +kernel
theorem dX9_endRoads_27 : decode cX9_endRoads 27 = .ok (.astore_n 2, 1) := by decide +kernel
theorem dX9_endRoads_28 : decode cX9_endRoads 28 = .ok (.aload_n 2, 1) := by decide +kernel
theorem dX9_endRoads_29 : decode cX9_endRoads 29 = .ok (.getfield 319, 3) := by decide +kernel
theorem dX9_endRoads_32 : decode cX9_endRoads 32 = .ok (.iconst 3, 1) := by decide +kernel
theorem dX9_endRoads_33 : decode cX9_endRoads 33 = .ok (.if_icmp .ne 23, 3) := by decide +kernel
theorem dX9_endRoads_36 : decode cX9_endRoads 36 = .ok (.aload_n 2, 1) := by decide +kernel
theorem dX9_endRoads_37 : decode cX9_endRoads 37 = .ok (.getfield 486, 3) := by decide +kernel
theorem dX9_endRoads_40 : decode cX9_endRoads 40 = .ok (.aload_n 0, 1) := by decide +kernel
theorem dX9_endRoads_41 : decode cX9_endRoads 41 = .ok (.getfield 63, 3) := by decide +kernel
theorem dX9_endRoads_44 : decode cX9_endRoads 44 = .ok (.if_icmp .gt 12, 3) := by decide +kernel
theorem dX9_endRoads_47 : decode cX9_endRoads 47 = .ok (.aload_n 2, 1) := by decide +kernel
theorem dX9_endRoads_48 : decode cX9_endRoads 48 = .ok (.iconst 0, 1) := by decide +kernel
theorem dX9_endRoads_49 : decode cX9_endRoads 49 = .ok (.aload_n 0, 1) := by decide +kernel
theorem dX9_endRoads_50 : decode cX9_endRoads 50 = .ok (.getfield 63, 3) := by decide +kernel
theorem dX9_endRoads_53 : decode cX9_endRoads 53 = .ok (.invokevirtual 241, 3) := by decide +kernel
theorem dX9_endRoads_56 : decode cX9_endRoads 56 = .ok (.iinc 1 1, 3) := by decide +kernel
theorem dX9_endRoads_59 : decode cX9_endRoads 59 = .ok (.goto (-57), 3) := by decide +kernel
theorem dX9_endRoads_62 : decode cX9_endRoads 62 = .ok (.return_, 1) := by decide +kernel
theorem dX9_listTheRested_0 : decode cX9_listTheRested 0 = .ok (.iconst 0, 1) := by decide +kernel
theorem dX9_listTheRested_1 : decode cX9_listTheRested 1 = .ok (.istore_n 1, 1) := by decide +kernel
theorem dX9_listTheRested_2 : decode cX9_listTheRested 2 = .ok (.iload_n 1, 1) := by decide +kernel
theorem dX9_listTheRested_3 : decode cX9_listTheRested 3 = .ok (.aload_n 0, 1) := by decide +kernel
theorem dX9_listTheRested_4 : decode cX9_listTheRested 4 = .ok (.getfield 12, 3) := by decide +kernel
theorem dX9_listTheRested_7 : decode cX9_listTheRested 7 = .ok (.invokevirtual 93, 3) := by decide +kernel
theorem dX9_listTheRested_10 : decode cX9_listTheRested 10 = .ok (.if_icmp .ge 86, 3) := by decide +kernel
theorem dX9_listTheRested_13 : decode cX9_listTheRested 13 = .ok (.aload_n 0, 1) := by decide +kernel
theorem dX9_listTheRested_14 : decode cX9_listTheRested 14 = .ok (.getfield 12, 3) := by decide +kernel
theorem dX9_listTheRested_17 : decode cX9_listTheRested 17 = .ok (.iload_n 1, 1) := by decide +kernel
theorem dX9_listTheRested_18 : decode cX9_listTheRested 18 = .ok (.invokevirtual 268, 3) := by decide +kernel
theorem dX9_listTheRested_21 : decode cX9_listTheRested 21 = .ok (.checkcast 102, 3) := by decide +kernel
theorem dX9_listTheRested_24 : decode cX9_listTheRested 24 = .ok (.astore_n 2, 1) := by decide +kernel
theorem dX9_listTheRested_25 : decode cX9_listTheRested 25 = .ok (.aload_n 2, 1) := by decide +kernel
theorem dX9_listTheRested_26 : decode cX9_listTheRested 26 = .ok (.getfield 234, 3) := by decide +kernel
theorem dX9_listTheRested_29 : decode cX9_listTheRested 29 = .ok (.getfield 319, 3) := by decide +kernel
theorem dX9_listTheRested_32 : decode cX9_listTheRested 32 = .ok (.ifCond .eq 14, 3) := by decide +kernel
theorem dX9_listTheRested_35 : decode cX9_listTheRested 35 = .ok (.aload_n 2, 1) := by decide +kernel
theorem dX9_listTheRested_36 : decode cX9_listTheRested 36 = .ok (.getfield 234, 3) := by decide +kernel
theorem dX9_listTheRested_39 : decode cX9_listTheRested 39 = .ok (.getfield 319, 3) := by decide +kernel
theorem dX9_listTheRested_42 : decode cX9_listTheRested 42 = .ok (.iconst 1, 1) := by decide +kernel
theorem dX9_listTheRested_43 : decode cX9_listTheRested 43 = .ok (.if_icmp .ne 7, 3) := by decide +kernel
theorem dX9_listTheRested_46 : decode cX9_listTheRested 46 = .ok (.iconst 1, 1) := by decide +kernel
theorem dX9_listTheRested_47 : decode cX9_listTheRested 47 = .ok (.goto 4, 3) := by decide +kernel
theorem dX9_listTheRested_50 : decode cX9_listTheRested 50 = .ok (.iconst 0, 1) := by decide +kernel
theorem dX9_listTheRested_51 : decode cX9_listTheRested 51 = .ok (.istore_n 3, 1) := by decide +kernel
theorem dX9_listTheRested_52 : decode cX9_listTheRested 52 = .ok (.iload_n 3, 1) := by decide +kernel
theorem dX9_listTheRested_53 : decode cX9_listTheRested 53 = .ok (.ifCond .eq 37, 3) := by decide +kernel
theorem dX9_listTheRested_56 : decode cX9_listTheRested 56 = .ok (.aload_n 2, 1) := by decide +kernel
theorem dX9_listTheRested_57 : decode cX9_listTheRested 57 = .ok (.getfield 234, 3) := by decide +kernel
theorem dX9_listTheRested_60 : decode cX9_listTheRested 60 = .ok (.getfield 322, 3) := by decide +kernel
theorem dX9_listTheRested_63 : decode cX9_listTheRested 63 = .ok (.aload_n 0, 1) := by decide +kernel
theorem dX9_listTheRested_64 : decode cX9_listTheRested 64 = .ok (.getfield 63, 3) := by decide +kernel
theorem dX9_listTheRested_67 : decode cX9_listTheRested 67 = .ok (.if_icmp .gt 23, 3) := by decide +kernel
theorem dX9_listTheRested_70 : decode cX9_listTheRested 70 = .ok (.aload_n 0, 1) := by decide +kernel
theorem dX9_listTheRested_71 : decode cX9_listTheRested 71 = .ok (.getfield 46, 3) := by decide +kernel
theorem dX9_listTheRested_74 : decode cX9_listTheRested 74 = .ok (.aload_n 2, 1) := by decide +kernel
theorem dX9_listTheRested_75 : decode cX9_listTheRested 75 = .ok (.invokevirtual 331, 3) := by decide +kernel
theorem dX9_listTheRested_78 : decode cX9_listTheRested 78 = .ok (.iconst (-1), 1) := by decide +kernel
theorem dX9_listTheRested_79 : decode cX9_listTheRested 79 = .ok (.if_icmp .ne 11, 3) := by decide +kernel
theorem dX9_listTheRested_82 : decode cX9_listTheRested 82 = .ok (.aload_n 0, 1) := by decide +kernel
theorem dX9_listTheRested_83 : decode cX9_listTheRested 83 = .ok (.getfield 46, 3) := by decide +kernel
theorem dX9_listTheRested_86 : decode cX9_listTheRested 86 = .ok (.aload_n 2, 1) := by decide +kernel
theorem dX9_listTheRested_87 : decode cX9_listTheRested 87 = .ok (.invokevirtual 111, 3) := by decide +kernel
theorem dX9_listTheRested_90 : decode cX9_listTheRested 90 = .ok (.iinc 1 1, 3) := by decide +kernel
theorem dX9_listTheRested_93 : decode cX9_listTheRested 93 = .ok (.goto (-91), 3) := by decide +kernel
theorem dX9_listTheRested_96 : decode cX9_listTheRested 96 = .ok (.return_, 1) := by decide +kernel
theorem dX9_wentJustNow_0 : decode cX9_wentJustNow 0 = .ok (.aload_n 1, 1) := by decide +kernel
theorem dX9_wentJustNow_1 : decode cX9_wentJustNow 1 = .ok (.getfield 343, 3) := by decide +kernel
theorem dX9_wentJustNow_4 : decode cX9_wentJustNow 4 = .ok (.iconst 1, 1) := by decide +kernel
theorem dX9_wentJustNow_5 : decode cX9_wentJustNow 5 = .ok (.if_icmp .ne 18, 3) := by decide +kernel
theorem dX9_wentJustNow_8 : decode cX9_wentJustNow 8 = .ok (.aload_n 1, 1) := by decide +kernel
theorem dX9_wentJustNow_9 : decode cX9_wentJustNow 9 = .ok (.getfield 346, 3) := by decide +kernel
theorem dX9_wentJustNow_12 : decode cX9_wentJustNow 12 = .ok (.aload_n 0, 1) := by decide +kernel
theorem dX9_wentJustNow_13 : decode cX9_wentJustNow 13 = .ok (.getfield 63, 3) := by decide +kernel
theorem dX9_wentJustNow_16 : decode cX9_wentJustNow 16 = .ok (.if_icmp .ne 7, 3) := by decide +kernel
theorem dX9_wentJustNow_19 : decode cX9_wentJustNow 19 = .ok (.iconst 1, 1) := by decide +kernel
theorem dX9_wentJustNow_20 : decode cX9_wentJustNow 20 = .ok (.goto 4, 3) := by decide +kernel
theorem dX9_wentJustNow_23 : decode cX9_wentJustNow 23 = .ok (.iconst 0, 1) := by decide +kernel
theorem dX9_wentJustNow_24 : decode cX9_wentJustNow 24 = .ok (.ireturn, 1) := by decide +kernel
theorem dX9_canGiveLeader_0 : decode cX9_canGiveLeader 0 = .ok (.aload_n 0, 1) := by decide +kernel
theorem dX9_canGiveLeader_1 : decode cX9_canGiveLeader 1 = .ok (.aload_n 1, 1) := by decide +kernel
theorem dX9_canGiveLeader_2 : decode cX9_canGiveLeader 2 = .ok (.invokevirtual 225, 3) := by decide +kernel
theorem dX9_canGiveLeader_5 : decode cX9_canGiveLeader 5 = .ok (.ifCond .eq 21, 3) := by decide +kernel
theorem dX9_canGiveLeader_8 : decode cX9_canGiveLeader 8 = .ok (.aload_n 1, 1) := by decide +kernel
theorem dX9_canGiveLeader_9 : decode cX9_canGiveLeader 9 = .ok (.getfield 256, 3) := by decide +kernel
theorem dX9_canGiveLeader_12 : decode cX9_canGiveLeader 12 = .ok (.ifnull 14, 3) := by decide +kernel
theorem dX9_canGiveLeader_15 : decode cX9_canGiveLeader 15 = .ok (.aload_n 1, 1) := by decide +kernel
theorem dX9_canGiveLeader_16 : decode cX9_canGiveLeader 16 = .ok (.getfield 349, 3) := by decide +kernel
theorem dX9_canGiveLeader_19 : decode cX9_canGiveLeader 19 = .ok (.ifnonnull 7, 3) := by decide +kernel
theorem dX9_canGiveLeader_22 : decode cX9_canGiveLeader 22 = .ok (.iconst 1, 1) := by decide +kernel
theorem dX9_canGiveLeader_23 : decode cX9_canGiveLeader 23 = .ok (.goto 4, 3) := by decide +kernel
theorem dX9_canGiveLeader_26 : decode cX9_canGiveLeader 26 = .ok (.iconst 0, 1) := by decide +kernel
theorem dX9_canGiveLeader_27 : decode cX9_canGiveLeader 27 = .ok (.ireturn, 1) := by decide +kernel
theorem dX9_shipsThat_0 : decode cX9_shipsThat 0 = .ok (.iconst 0, 1) := by decide +kernel
theorem dX9_shipsThat_1 : decode cX9_shipsThat 1 = .ok (.istore_n 2, 1) := by decide +kernel
theorem dX9_shipsThat_2 : decode cX9_shipsThat 2 = .ok (.iconst 0, 1) := by decide +kernel
theorem dX9_shipsThat_3 : decode cX9_shipsThat 3 = .ok (.istore_n 3, 1) := by decide +kernel
theorem dX9_shipsThat_4 : decode cX9_shipsThat 4 = .ok (.iload_n 3, 1) := by decide +kernel
theorem dX9_shipsThat_5 : decode cX9_shipsThat 5 = .ok (.aload_n 0, 1) := by decide +kernel
theorem dX9_shipsThat_6 : decode cX9_shipsThat 6 = .ok (.getfield 16, 3) := by decide +kernel
theorem dX9_shipsThat_9 : decode cX9_shipsThat 9 = .ok (.invokevirtual 93, 3) := by decide +kernel
theorem dX9_shipsThat_12 : decode cX9_shipsThat 12 = .ok (.if_icmp .ge 33, 3) := by decide +kernel
theorem dX9_shipsThat_15 : decode cX9_shipsThat 15 = .ok (.aload_n 0, 1) := by decide +kernel
theorem dX9_shipsThat_16 : decode cX9_shipsThat 16 = .ok (.getfield 16, 3) := by decide +kernel
theorem dX9_shipsThat_19 : decode cX9_shipsThat 19 = .ok (.iload_n 3, 1) := by decide +kernel
theorem dX9_shipsThat_20 : decode cX9_shipsThat 20 = .ok (.invokevirtual 268, 3) := by decide +kernel
theorem dX9_shipsThat_23 : decode cX9_shipsThat 23 = .ok (.checkcast 131, 3) := by decide +kernel
theorem dX9_shipsThat_26 : decode cX9_shipsThat 26 = .ok (.getfield 221, 3) := by decide +kernel
theorem dX9_shipsThat_29 : decode cX9_shipsThat 29 = .ok (.getfield 343, 3) := by decide +kernel
theorem dX9_shipsThat_32 : decode cX9_shipsThat 32 = .ok (.iload_n 1, 1) := by decide +kernel
theorem dX9_shipsThat_33 : decode cX9_shipsThat 33 = .ok (.if_icmp .ne 6, 3) := by decide +kernel
theorem dX9_shipsThat_36 : decode cX9_shipsThat 36 = .ok (.iinc 2 1, 3) := by decide +kernel
theorem dX9_shipsThat_39 : decode cX9_shipsThat 39 = .ok (.iinc 3 1, 3) := by decide +kernel
theorem dX9_shipsThat_42 : decode cX9_shipsThat 42 = .ok (.goto (-38), 3) := by decide +kernel
theorem dX9_shipsThat_45 : decode cX9_shipsThat 45 = .ok (.iload_n 2, 1) := by decide +kernel
theorem dX9_shipsThat_46 : decode cX9_shipsThat 46 = .ok (.ireturn, 1) := by decide +kernel
theorem dX9_sumOfLooks_0 : decode cX9_sumOfLooks 0 = .ok (.iconst 0, 1) := by decide +kernel
theorem dX9_sumOfLooks_1 : decode cX9_sumOfLooks 1 = .ok (.istore_n 2, 1) := by decide +kernel
theorem dX9_sumOfLooks_2 : decode cX9_sumOfLooks 2 = .ok (.iconst 0, 1) := by decide +kernel
theorem dX9_sumOfLooks_3 : decode cX9_sumOfLooks 3 = .ok (.istore_n 3, 1) := by decide +kernel
theorem dX9_sumOfLooks_4 : decode cX9_sumOfLooks 4 = .ok (.iload_n 3, 1) := by decide +kernel
theorem dX9_sumOfLooks_5 : decode cX9_sumOfLooks 5 = .ok (.aload_n 0, 1) := by decide +kernel
theorem dX9_sumOfLooks_6 : decode cX9_sumOfLooks 6 = .ok (.getfield 12, 3) := by decide +kernel
theorem dX9_sumOfLooks_9 : decode cX9_sumOfLooks 9 = .ok (.invokevirtual 93, 3) := by decide +kernel
theorem dX9_sumOfLooks_12 : decode cX9_sumOfLooks 12 = .ok (.if_icmp .ge 18, 3) := by decide +kernel
theorem dX9_sumOfLooks_15 : decode cX9_sumOfLooks 15 = .ok (.iload_n 2, 1) := by decide +kernel
theorem dX9_sumOfLooks_16 : decode cX9_sumOfLooks 16 = .ok (.aload_n 0, 1) := by decide +kernel
theorem dX9_sumOfLooks_17 : decode cX9_sumOfLooks 17 = .ok (.iload_n 3, 1) := by decide +kernel
theorem dX9_sumOfLooks_18 : decode cX9_sumOfLooks 18 = .ok (.iload_n 1, 1) := by decide +kernel
theorem dX9_sumOfLooks_19 : decode cX9_sumOfLooks 19 = .ok (.invokevirtual 489, 3) := by decide +kernel
theorem dX9_sumOfLooks_22 : decode cX9_sumOfLooks 22 = .ok (.iadd, 1) := by decide +kernel
theorem dX9_sumOfLooks_23 : decode cX9_sumOfLooks 23 = .ok (.istore_n 2, 1) := by decide +kernel
theorem dX9_sumOfLooks_24 : decode cX9_sumOfLooks 24 = .ok (.iinc 3 1, 3) := by decide +kernel
theorem dX9_sumOfLooks_27 : decode cX9_sumOfLooks 27 = .ok (.goto (-23), 3) := by decide +kernel
theorem dX9_sumOfLooks_30 : decode cX9_sumOfLooks 30 = .ok (.iload_n 2, 1) := by decide +kernel
theorem dX9_sumOfLooks_31 : decode cX9_sumOfLooks 31 = .ok (.ireturn, 1) := by decide +kernel
theorem dX9_sumOfCrafts_0 : decode cX9_sumOfCrafts 0 = .ok (.iconst 0, 1) := by decide +kernel
theorem dX9_sumOfCrafts_1 : decode cX9_sumOfCrafts 1 = .ok (.istore_n 2, 1) := by decide +kernel
theorem dX9_sumOfCrafts_2 : decode cX9_sumOfCrafts 2 = .ok (.iconst 0, 1) := by decide +kernel
theorem dX9_sumOfCrafts_3 : decode cX9_sumOfCrafts 3 = .ok (.istore_n 3, 1) := by decide +kernel
theorem dX9_sumOfCrafts_4 : decode cX9_sumOfCrafts 4 = .ok (.iload_n 3, 1) := by decide +kernel
theorem dX9_sumOfCrafts_5 : decode cX9_sumOfCrafts 5 = .ok (.aload_n 0, 1) := by decide +kernel
theorem dX9_sumOfCrafts_6 : decode cX9_sumOfCrafts 6 = .ok (.getfield 16, 3) := by decide +kernel
theorem dX9_sumOfCrafts_9 : decode cX9_sumOfCrafts 9 = .ok (.invokevirtual 93, 3) := by decide +kernel
theorem dX9_sumOfCrafts_12 : decode cX9_sumOfCrafts 12 = .ok (.if_icmp .ge 18, 3) := by decide +kernel
theorem dX9_sumOfCrafts_15 : decode cX9_sumOfCrafts 15 = .ok (.iload_n 2, 1) := by decide +kernel
theorem dX9_sumOfCrafts_16 : decode cX9_sumOfCrafts 16 = .ok (.aload_n 0, 1) := by decide +kernel
theorem dX9_sumOfCrafts_17 : decode cX9_sumOfCrafts 17 = .ok (.iload_n 3, 1) := by decide +kernel
theorem dX9_sumOfCrafts_18 : decode cX9_sumOfCrafts 18 = .ok (.iload_n 1, 1) := by decide +kernel
theorem dX9_sumOfCrafts_19 : decode cX9_sumOfCrafts 19 = .ok (.invokevirtual 492, 3) := by decide +kernel
theorem dX9_sumOfCrafts_22 : decode cX9_sumOfCrafts 22 = .ok (.iadd, 1) := by decide +kernel
theorem dX9_sumOfCrafts_23 : decode cX9_sumOfCrafts 23 = .ok (.istore_n 2, 1) := by decide +kernel
theorem dX9_sumOfCrafts_24 : decode cX9_sumOfCrafts 24 = .ok (.iinc 3 1, 3) := by decide +kernel
theorem dX9_sumOfCrafts_27 : decode cX9_sumOfCrafts 27 = .ok (.goto (-23), 3) := by decide +kernel
theorem dX9_sumOfCrafts_30 : decode cX9_sumOfCrafts 30 = .ok (.iload_n 2, 1) := by decide +kernel
theorem dX9_sumOfCrafts_31 : decode cX9_sumOfCrafts 31 = .ok (.ireturn, 1) := by decide +kernel
theorem dX10_init_0 : decode cX10_init 0 = .ok (.aload_n 0, 1) := by decide +kernel
theorem dX10_init_1 : decode cX10_init 1 = .ok (.invokespecial 1, 3) := by decide +kernel
theorem dX10_init_4 : decode cX10_init 4 = .ok (.aload_n 0, 1) := by decide +kernel
theorem dX10_init_5 : decode cX10_init 5 = .ok (.bipush 60, 2) := by decide +kernel
theorem dX10_init_7 : decode cX10_init 7 = .ok (.newarray .int, 2) := by decide +kernel
theorem dX10_init_9 : decode cX10_init 9 = .ok (.putfield 7, 3) := by decide +kernel
theorem dX10_init_12 : decode cX10_init 12 = .ok (.aload_n 0, 1) := by decide +kernel
theorem dX10_init_13 : decode cX10_init 13 = .ok (.bipush 60, 2) := by decide +kernel
theorem dX10_init_15 : decode cX10_init 15 = .ok (.newarray .int, 2) := by decide +kernel
theorem dX10_init_17 : decode cX10_init 17 = .ok (.putfield 13, 3) := by decide +kernel
theorem dX10_init_20 : decode cX10_init 20 = .ok (.aload_n 0, 1) := by decide +kernel
theorem dX10_init_21 : decode cX10_init 21 = .ok (.bipush 60, 2) := by decide +kernel
theorem dX10_init_23 : decode cX10_init 23 = .ok (.newarray .int, 2) := by decide +kernel
theorem dX10_init_25 : decode cX10_init 25 = .ok (.putfield 16, 3) := by decide +kernel
theorem dX10_init_28 : decode cX10_init 28 = .ok (.aload_n 0, 1) := by decide +kernel
theorem dX10_init_29 : decode cX10_init 29 = .ok (.bipush 60, 2) := by decide +kernel
theorem dX10_init_31 : decode cX10_init 31 = .ok (.newarray .boolean, 2) := by decide +kernel
theorem dX10_init_33 : decode cX10_init 33 = .ok (.putfield 19, 3) := by decide +kernel
theorem dX10_init_36 : decode cX10_init 36 = .ok (.aload_n 0, 1) := by decide +kernel
theorem dX10_init_37 : decode cX10_init 37 = .ok (.sipush 24000, 3) := by decide +kernel
theorem dX10_init_40 : decode cX10_init 40 = .ok (.newarray .boolean, 2) := by decide +kernel
theorem dX10_init_42 : decode cX10_init 42 = .ok (.putfield 23, 3) := by decide +kernel
theorem dX10_init_45 : decode cX10_init 45 = .ok (.aload_n 0, 1) := by decide +kernel
theorem dX10_init_46 : decode cX10_init 46 = .ok (.bipush 60, 2) := by decide +kernel
theorem dX10_init_48 : decode cX10_init 48 = .ok (.newarray .int, 2) := by decide +kernel
theorem dX10_init_50 : decode cX10_init 50 = .ok (.putfield 26, 3) := by decide +kernel
theorem dX10_init_53 : decode cX10_init 53 = .ok (.aload_n 0, 1) := by decide +kernel
theorem dX10_init_54 : decode cX10_init 54 = .ok (.bipush 60, 2) := by decide +kernel
theorem dX10_init_56 : decode cX10_init 56 = .ok (.newarray .int, 2) := by decide +kernel
theorem dX10_init_58 : decode cX10_init 58 = .ok (.putfield 29, 3) := by decide +kernel
theorem dX10_init_61 : decode cX10_init 61 = .ok (.aload_n 0, 1) := by decide +kernel
theorem dX10_init_62 : decode cX10_init 62 = .ok (.bipush 60, 2) := by decide +kernel
theorem dX10_init_64 : decode cX10_init 64 = .ok (.newarray .int, 2) := by decide +kernel
theorem dX10_init_66 : decode cX10_init 66 = .ok (.putfield 32, 3) := by decide +kernel
theorem dX10_init_69 : decode cX10_init 69 = .ok (.aload_n 0, 1) := by decide +kernel
theorem dX10_init_70 : decode cX10_init 70 = .ok (.bipush 60, 2) := by decide +kernel
theorem dX10_init_72 : decode cX10_init 72 = .ok (.newarray .int, 2) := by decide +kernel
theorem dX10_init_74 : decode cX10_init 74 = .ok (.putfield 35, 3) := by decide +kernel
theorem dX10_init_77 : decode cX10_init 77 = .ok (.aload_n 0, 1) := by decide +kernel
theorem dX10_init_78 : decode cX10_init 78 = .ok (.bipush 60, 2) := by decide +kernel
theorem dX10_init_80 : decode cX10_init 80 = .ok (.newarray .int, 2) := by decide +kernel
theorem dX10_init_82 : decode cX10_init 82 = .ok (.putfield 38, 3) := by decide +kernel
theorem dX10_init_85 : decode cX10_init 85 = .ok (.aload_n 0, 1) := by decide +kernel
theorem dX10_init_86 : decode cX10_init 86 = .ok (.bipush 60, 2) := by decide +kernel
theorem dX10_init_88 : decode cX10_init 88 = .ok (.newarray .int, 2) := by decide +kernel
theorem dX10_init_90 : decode cX10_init 90 = .ok (.putfield 41, 3) := by decide +kernel
theorem dX10_init_93 : decode cX10_init 93 = .ok (.aload_n 0, 1) := by decide +kernel
theorem dX10_init_94 : decode cX10_init 94 = .ok (.bipush 60, 2) := by decide +kernel
theorem dX10_init_96 : decode cX10_init 96 = .ok (.newarray .int, 2) := by decide +kernel
theorem dX10_init_98 : decode cX10_init 98 = .ok (.putfield 44, 3) := by decide +kernel
theorem dX10_init_101 : decode cX10_init 101 = .ok (.aload_n 0, 1) := by decide +kernel
theorem dX10_init_102 : decode cX10_init 102 = .ok (.bipush 60, 2) := by decide +kernel
theorem dX10_init_104 : decode cX10_init 104 = .ok (.newarray .int, 2) := by decide +kernel
theorem dX10_init_106 : decode cX10_init 106 = .ok (.putfield 47, 3) := by decide +kernel
theorem dX10_init_109 : decode cX10_init 109 = .ok (.aload_n 0, 1) := by decide +kernel
theorem dX10_init_110 : decode cX10_init 110 = .ok (.bipush 60, 2) := by decide +kernel
theorem dX10_init_112 : decode cX10_init 112 = .ok (.newarray .int, 2) := by decide +kernel
theorem dX10_init_114 : decode cX10_init 114 = .ok (.putfield 50, 3) := by decide +kernel
theorem dX10_init_117 : decode cX10_init 117 = .ok (.aload_n 0, 1) := by decide +kernel
theorem dX10_init_118 : decode cX10_init 118 = .ok (.bipush 60, 2) := by decide +kernel
theorem dX10_init_120 : decode cX10_init 120 = .ok (.newarray .int, 2) := by decide +kernel
theorem dX10_init_122 : decode cX10_init 122 = .ok (.putfield 53, 3) := by decide +kernel
theorem dX10_init_125 : decode cX10_init 125 = .ok (.aload_n 0, 1) := by decide +kernel
theorem dX10_init_126 : decode cX10_init 126 = .ok (.sipush 400, 3) := by decide +kernel
theorem dX10_init_129 : decode cX10_init 129 = .ok (.newarray .boolean, 2) := by decide +kernel
theorem dX10_init_131 : decode cX10_init 131 = .ok (.putfield 56, 3) := by decide +kernel
theorem dX10_init_134 : decode cX10_init 134 = .ok (.aload_n 0, 1) := by decide +kernel
theorem dX10_init_135 : decode cX10_init 135 = .ok (.sipush 400, 3) := by decide +kernel
theorem dX10_init_138 : decode cX10_init 138 = .ok (.newarray .int, 2) := by decide +kernel
theorem dX10_init_140 : decode cX10_init 140 = .ok (.putfield 59, 3) := by decide +kernel
theorem dX10_init_143 : decode cX10_init 143 = .ok (.aload_n 0, 1) := by decide +kernel
theorem dX10_init_144 : decode cX10_init 144 = .ok (.sipush 400, 3) := by decide +kernel
theorem dX10_init_147 : decode cX10_init 147 = .ok (.newarray .int, 2) := by decide +kernel
theorem dX10_init_149 : decode cX10_init 149 = .ok (.putfield 62, 3) := by decide +kernel
theorem dX10_init_152 : decode cX10_init 152 = .ok (.aload_n 0, 1) := by decide +kernel
theorem dX10_init_153 : decode cX10_init 153 = .ok (.sipush 400, 3) := by decide +kernel
theorem dX10_init_156 : decode cX10_init 156 = .ok (.newarray .int, 2) := by decide +kernel
theorem dX10_init_158 : decode cX10_init 158 = .ok (.putfield 65, 3) := by decide +kernel
theorem dX10_init_161 : decode cX10_init 161 = .ok (.aload_n 0, 1) := by decide +kernel
theorem dX10_init_162 : decode cX10_init 162 = .ok (.sipush 400, 3) := by decide +kernel
theorem dX10_init_165 : decode cX10_init 165 = .ok (.newarray .int, 2) := by decide +kernel
theorem dX10_init_167 : decode cX10_init 167 = .ok (.putfield 68, 3) := by decide +kernel
theorem dX10_init_170 : decode cX10_init 170 = .ok (.aload_n 0, 1) := by decide +kernel
theorem dX10_init_171 : decode cX10_init 171 = .ok (.sipush 400, 3) := by decide +kernel
theorem dX10_init_174 : decode cX10_init 174 = .ok (.newarray .boolean, 2) := by decide +kernel
theorem dX10_init_176 : decode cX10_init 176 = .ok (.putfield 71, 3) := by decide +kernel
theorem dX10_init_179 : decode cX10_init 179 = .ok (.aload_n 0, 1) := by decide +kernel
theorem dX10_init_180 : decode cX10_init 180 = .ok (.sipush 400, 3) := by decide +kernel
theorem dX10_init_183 : decode cX10_init 183 = .ok (.newarray .int, 2) := by decide +kernel
theorem dX10_init_185 : decode cX10_init 185 = .ok (.putfield 74, 3) := by decide +kernel
theorem dX10_init_188 : decode cX10_init 188 = .ok (.aload_n 0, 1) := by decide +kernel
theorem dX10_init_189 : decode cX10_init 189 = .ok (.sipush 400, 3) := by decide +kernel
theorem dX10_init_192 : decode cX10_init 192 = .ok (.newarray .int, 2) := by decide +kernel
theorem dX10_init_194 : decode cX10_init 194 = .ok (.putfield 77, 3) := by decide +kernel
theorem dX10_init_197 : decode cX10_init 197 = .ok (.aload_n 0, 1) := by decide +kernel
theorem dX10_init_198 : decode cX10_init 198 = .ok (.sipush 400, 3) := by decide +kernel
theorem dX10_init_201 : decode cX10_init 201 = .ok (.newarray .int, 2) := by decide +kernel
theorem dX10_init_203 : decode cX10_init 203 = .ok (.putfield 80, 3) := by decide +kernel
theorem dX10_init_206 : decode cX10_init 206 = .ok (.aload_n 0, 1) := by decide +kernel
theorem dX10_init_207 : decode cX10_init 207 = .ok (.sipush 400, 3) := by decide +kernel
theorem dX10_init_210 : decode cX10_init 210 = .ok (.newarray .int, 2) := by decide +kernel
theorem dX10_init_212 : decode cX10_init 212 = .ok (.putfield 83, 3) := by decide +kernel
theorem dX10_init_215 : decode cX10_init 215 = .ok (.aload_n 0, 1) := by decide +kernel
theorem dX10_init_216 : decode cX10_init 216 = .ok (.sipush 400, 3) := by decide +kernel
theorem dX10_init_219 : decode cX10_init 219 = .ok (.newarray .int, 2) := by decide +kernel
theorem dX10_init_221 : decode cX10_init 221 = .ok (.putfield 86, 3) := by decide +kernel
theorem dX10_init_224 : decode cX10_init 224 = .ok (.aload_n 0, 1) := by decide +kernel
theorem dX10_init_225 : decode cX10_init 225 = .ok (.sipush 400, 3) := by decide +kernel
theorem dX10_init_228 : decode cX10_init 228 = .ok (.newarray .int, 2) := by decide +kernel
theorem dX10_init_230 : decode cX10_init 230 = .ok (.putfield 89, 3) := by decide +kernel
theorem dX10_init_233 : decode cX10_init 233 = .ok (.aload_n 0, 1) := by decide +kernel
theorem dX10_init_234 : decode cX10_init 234 = .ok (.sipush 400, 3) := by decide +kernel
theorem dX10_init_237 : decode cX10_init 237 = .ok (.newarray .int, 2) := by decide +kernel
theorem dX10_init_239 : decode cX10_init 239 = .ok (.putfield 92, 3) := by decide +kernel
theorem dX10_init_242 : decode cX10_init 242 = .ok (.aload_n 0, 1) := by decide +kernel
theorem dX10_init_243 : decode cX10_init 243 = .ok (.sipush 400, 3) := by decide +kernel
theorem dX10_init_246 : decode cX10_init 246 = .ok (.newarray .int, 2) := by decide +kernel
theorem dX10_init_248 : decode cX10_init 248 = .ok (.putfield 95, 3) := by decide +kernel
theorem dX10_init_251 : decode cX10_init 251 = .ok (.aload_n 0, 1) := by decide +kernel
theorem dX10_init_252 : decode cX10_init 252 = .ok (.sipush 9600, 3) := by decide +kernel
theorem dX10_init_255 : decode cX10_init 255 = .ok (.newarray .int, 2) := by decide +kernel
theorem dX10_init_257 : decode cX10_init 257 = .ok (.putfield 98, 3) := by decide +kernel
theorem dX10_init_260 : decode cX10_init 260 = .ok (.aload_n 0, 1) := by decide +kernel
theorem dX10_init_261 : decode cX10_init 261 = .ok (.sipush 400, 3) := by decide +kernel
theorem dX10_init_264 : decode cX10_init 264 = .ok (.newarray .int, 2) := by decide +kernel
theorem dX10_init_266 : decode cX10_init 266 = .ok (.putfield 101, 3) := by decide +kernel
theorem dX10_init_269 : decode cX10_init 269 = .ok (.aload_n 0, 1) := by decide +kernel
theorem dX10_init_270 : decode cX10_init 270 = .ok (.sipush 400, 3) := by decide +kernel
theorem dX10_init_273 : decode cX10_init 273 = .ok (.newarray .boolean, 2) := by decide +kernel
theorem dX10_init_275 : decode cX10_init 275 = .ok (.putfield 104, 3) := by decide +kernel
theorem dX10_init_278 : decode cX10_init 278 = .ok (.aload_n 0, 1) := by decide +kernel
theorem dX10_init_279 : decode cX10_init 279 = .ok (.bipush 12, 2) := by decide +kernel
theorem dX10_init_281 : decode cX10_init 281 = .ok (.newarray .int, 2) := by decide +kernel
theorem dX10_init_283 : decode cX10_init 283 = .ok (.putfield 107, 3) := by decide +kernel
theorem dX10_init_286 : decode cX10_init 286 = .ok (.aload_n 0, 1) := by decide +kernel
theorem dX10_init_287 : decode cX10_init 287 = .ok (.bipush 12, 2) := by decide +kernel
theorem dX10_init_289 : decode cX10_init 289 = .ok (.newarray .int, 2) := by decide +kernel
theorem dX10_init_291 : decode cX10_init 291 = .ok (.putfield 110, 3) := by decide +kernel
theorem dX10_init_294 : decode cX10_init 294 = .ok (.aload_n 0, 1) := by decide +kernel
theorem dX10_init_295 : decode cX10_init 295 = .ok (.iconst 1, 1) := by decide +kernel
theorem dX10_init_296 : decode cX10_init 296 = .ok (.putfield 113, 3) := by decide +kernel
theorem dX10_init_299 : decode cX10_init 299 = .ok (.aload_n 0, 1) := by decide +kernel
theorem dX10_init_300 : decode cX10_init 300 = .ok (.bipush 8, 2) := by decide +kernel
theorem dX10_init_302 : decode cX10_init 302 = .ok (.putfield 117, 3) := by decide +kernel
theorem dX10_init_305 : decode cX10_init 305 = .ok (.aload_n 0, 1) := by decide +kernel
theorem dX10_init_306 : decode cX10_init 306 = .ok (.iconst 4, 1) := by decide +kernel
theorem dX10_init_307 : decode cX10_init 307 = .ok (.putfield 120, 3) := by decide +kernel
theorem dX10_init_310 : decode cX10_init 310 = .ok (.aload_n 0, 1) := by decide +kernel
theorem dX10_init_311 : decode cX10_init 311 = .ok (.iconst 4, 1) := by decide +kernel
theorem dX10_init_312 : decode cX10_init 312 = .ok (.putfield 123, 3) := by decide +kernel
theorem dX10_init_315 : decode cX10_init 315 = .ok (.aload_n 0, 1) := by decide +kernel
theorem dX10_init_316 : decode cX10_init 316 = .ok (.sipush 300, 3) := by decide +kernel
theorem dX10_init_319 : decode cX10_init 319 = .ok (.newarray .int, 2) := by decide +kernel
theorem dX10_init_321 : decode cX10_init 321 = .ok (.putfield 126, 3) := by decide +kernel
theorem dX10_init_324 : decode cX10_init 324 = .ok (.aload_n 0, 1) := by decide +kernel
theorem dX10_init_325 : decode cX10_init 325 = .ok (.sipush 300, 3) := by decide +kernel
theorem dX10_init_328 : decode cX10_init 328 = .ok (.newarray .int, 2) := by decide +kernel
theorem dX10_init_330 : decode cX10_init 330 = .ok (.putfield 129, 3) := by decide +kernel
theorem dX10_init_333 : decode cX10_init 333 = .ok (.aload_n 0, 1) := by decide +kernel
theorem dX10_init_334 : decode cX10_init 334 = .ok (.sipush 300, 3) := by decide +kernel
theorem dX10_init_337 : decode cX10_init 337 = .ok (.newarray .int, 2) := by decide +kernel
theorem dX10_init_339 : decode cX10_init 339 = .ok (.putfield 132, 3) := by decide +kernel
theorem dX10_init_342 : decode cX10_init 342 = .ok (.aload_n 0, 1) := by decide +kernel
theorem dX10_init_343 : decode cX10_init 343 = .ok (.sipush 400, 3) := by decide +kernel
theorem dX10_init_346 : decode cX10_init 346 = .ok (.newarray .int, 2) := by decide +kernel
theorem dX10_init_348 : decode cX10_init 348 = .ok (.putfield 135, 3) := by decide +kernel
theorem dX10_init_351 : decode cX10_init 351 = .ok (.aload_n 0, 1) := by decide +kernel
theorem dX10_init_352 : decode cX10_init 352 = .ok (.bipush 60, 2) := by decide +kernel
theorem dX10_init_354 : decode cX10_init 354 = .ok (.newarray .int, 2) := by decide +kernel
theorem dX10_init_356 : decode cX10_init 356 = .ok (.putfield 138, 3) := by decide +kernel
theorem dX10_init_359 : decode cX10_init 359 = .ok (.aload_n 0, 1) := by decide +kernel
theorem dX10_init_360 : decode cX10_init 360 = .ok (.sipush 600, 3) := by decide +kernel
theorem dX10_init_363 : decode cX10_init 363 = .ok (.newarray .int, 2) := by decide +kernel
theorem dX10_init_365 : decode cX10_init 365 = .ok (.putfield 141, 3) := by decide +kernel
theorem dX10_init_368 : decode cX10_init 368 = .ok (.aload_n 0, 1) := by decide +kernel
theorem dX10_init_369 : decode cX10_init 369 = .ok (.sipush 3200, 3) := by decide +kernel
theorem dX10_init_372 : decode cX10_init 372 = .ok (.newarray .int, 2) := by decide +kernel
theorem dX10_init_374 : decode cX10_init 374 = .ok (.putfield 144, 3) := by decide +kernel
theorem dX10_init_377 : decode cX10_init 377 = .ok (.return_, 1) := by decide +kernel
theorem dX10_thrown_0 : decode cX10_thrown 0 = .ok (.aload_n 0, 1) := by decide +kernel
theorem dX10_thrown_1 : decode cX10_thrown 1 = .ok (.getfield 147, 3) := by decide +kernel
theorem dX10_thrown_4 : decode cX10_thrown 4 = .ok (.ireturn, 1) := by decide +kernel
theorem dX10_isIn_0 : decode cX10_isIn 0 = .ok (.iload_n 0, 1) := by decide +kernel
theorem dX10_isIn_1 : decode cX10_isIn 1 = .ok (.iload_n 1, 1) := by decide +kernel
theorem dX10_isIn_2 : decode cX10_isIn 2 = .ok (.if_icmp .lt 12, 3) := by decide +kernel
theorem dX10_isIn_5 : decode cX10_isIn 5 = .ok (.iload_n 0, 1) := by decide +kernel
theorem dX10_isIn_6 : decode cX10_isIn 6 = .ok (.iload_n 2, 1) := by decide +kernel
theorem dX10_isIn_7 : decode cX10_isIn 7 = .ok (.if_icmp .gt 7, 3) := by decide +kernel
theorem dX10_isIn_10 : decode cX10_isIn 10 = .ok (.iconst 1, 1) := by decide +kernel
theorem dX10_isIn_11 : decode cX10_isIn 11 = .ok (.goto 4, 3) := by decide +kernel
theorem dX10_isIn_14 : decode cX10_isIn 14 = .ok (.iconst 0, 1) := by decide +kernel
theorem dX10_isIn_15 : decode cX10_isIn 15 = .ok (.ireturn, 1) := by decide +kernel
theorem dX10_isPilot_0 : decode cX10_isPilot 0 = .ok (.iload_n 1, 1) := by decide +kernel
theorem dX10_isPilot_1 : decode cX10_isPilot 1 = .ok (.ifCond .lt 15, 3) := by decide +kernel
theorem dX10_isPilot_4 : decode cX10_isPilot 4 = .ok (.iload_n 1, 1) := by decide +kernel
theorem dX10_isPilot_5 : decode cX10_isPilot 5 = .ok (.aload_n 0, 1) := by decide +kernel
theorem dX10_isPilot_6 : decode cX10_isPilot 6 = .ok (.getfield 150, 3) := by decide +kernel
theorem dX10_isPilot_9 : decode cX10_isPilot 9 = .ok (.if_icmp .ge 7, 3) := by decide +kernel
theorem dX10_isPilot_12 : decode cX10_isPilot 12 = .ok (.iconst 1, 1) := by decide +kernel
theorem dX10_isPilot_13 : decode cX10_isPilot 13 = .ok (.goto 4, 3) := by decide +kernel
theorem dX10_isPilot_16 : decode cX10_isPilot 16 = .ok (.iconst 0, 1) := by decide +kernel
theorem dX10_isPilot_17 : decode cX10_isPilot 17 = .ok (.ireturn, 1) := by decide +kernel
theorem dX10_isShip_0 : decode cX10_isShip 0 = .ok (.iload_n 1, 1) := by decide +kernel
theorem dX10_isShip_1 : decode cX10_isShip 1 = .ok (.ifCond .lt 15, 3) := by decide +kernel
theorem dX10_isShip_4 : decode cX10_isShip 4 = .ok (.iload_n 1, 1) := by decide +kernel
theorem dX10_isShip_5 : decode cX10_isShip 5 = .ok (.aload_n 0, 1) := by decide +kernel
theorem dX10_isShip_6 : decode cX10_isShip 6 = .ok (.getfield 153, 3) := by decide +kernel
theorem dX10_isShip_9 : decode cX10_isShip 9 = .ok (.if_icmp .ge 7, 3) := by decide +kernel
theorem dX10_isShip_12 : decode cX10_isShip 12 = .ok (.iconst 1, 1) := by decide +kernel
theorem dX10_isShip_13 : decode cX10_isShip 13 = .ok (.goto 4, 3) := by decide +kernel
theorem dX10_isShip_16 : decode cX10_isShip 16 = .ok (.iconst 0, 1) := by decide +kernel
theorem dX10_isShip_17 : decode cX10_isShip 17 = .ok (.ireturn, 1) := by decide +kernel
theorem dX10_isDay_0 : decode cX10_isDay 0 = .ok (.iload_n 0, 1) := by decide +kernel
theorem dX10_isDay_1 : decode cX10_isDay 1 = .ok (.ifCond .lt 14, 3) := by decide +kernel
theorem dX10_isDay_4 : decode cX10_isDay 4 = .ok (.iload_n 0, 1) := by decide +kernel
theorem dX10_isDay_5 : decode cX10_isDay 5 = .ok (.sipush 400, 3) := by decide +kernel
theorem dX10_isDay_8 : decode cX10_isDay 8 = .ok (.if_icmp .ge 7, 3) := by decide +kernel
theorem dX10_isDay_11 : decode cX10_isDay 11 = .ok (.iconst 1, 1) := by decide +kernel
theorem dX10_isDay_12 : decode cX10_isDay 12 = .ok (.goto 4, 3) := by decide +kernel
theorem dX10_isDay_15 : decode cX10_isDay 15 = .ok (.iconst 0, 1) := by decide +kernel
theorem dX10_isDay_16 : decode cX10_isDay 16 = .ok (.ireturn, 1) := by decide +kernel
theorem dX10_pilot_0 : decode cX10_pilot 0 = .ok (.aload_n 0, 1) := by decide +kernel
theorem dX10_pilot_1 : decode cX10_pilot 1 = .ok (.iload_n 1, 1) := by decide +kernel
theorem dX10_pilot_2 : decode cX10_pilot 2 = .ok (.iconst 0, 1) := by decide +kernel
theorem dX10_pilot_3 : decode cX10_pilot 3 = .ok (.iconst 4, 1) := by decide +kernel
theorem dX10_pilot_4 : decode cX10_pilot 4 = .ok (.invokestatic 156, 3) := by decide +kernel
theorem dX10_pilot_7 : decode cX10_pilot 7 = .ok (.ifCond .eq 25, 3) := by decide +kernel
theorem dX10_pilot_10 : decode cX10_pilot 10 = .ok (.iload_n 2, 1) := by decide +kernel
theorem dX10_pilot_11 : decode cX10_pilot 11 = .ok (.iconst 0, 1) := by decide +kernel
theorem dX10_pilot_12 : decode cX10_pilot 12 = .ok (.sipush 400, 3) := by decide +kernel
theorem dX10_pilot_15 : decode cX10_pilot 15 = .ok (.invokestatic 156, 3) := by decide +kernel
theorem dX10_pilot_18 : decode cX10_pilot 18 = .ok (.ifCond .eq 14, 3) := by decide +kernel
theorem dX10_pilot_21 : decode cX10_pilot 21 = .ok (.iload_n 3, 1) := by decide +kernel
theorem dX10_pilot_22 : decode cX10_pilot 22 = .ok (.iconst 0, 1) := by decide +kernel
theorem dX10_pilot_23 : decode cX10_pilot 23 = .ok (.sipush 200, 3) := by decide +kernel
theorem dX10_pilot_26 : decode cX10_pilot 26 = .ok (.invokestatic 156, 3) := by decide +kernel
theorem dX10_pilot_29 : decode cX10_pilot 29 = .ok (.ifCond .ne 7, 3) := by decide +kernel
theorem dX10_pilot_32 : decode cX10_pilot 32 = .ok (.iconst 1, 1) := by decide +kernel
theorem dX10_pilot_33 : decode cX10_pilot 33 = .ok (.goto 17, 3) := by decide +kernel
theorem dX10_pilot_36 : decode cX10_pilot 36 = .ok (.aload_n 0, 1) := by decide +kernel
theorem dX10_pilot_37 : decode cX10_pilot 37 = .ok (.getfield 150, 3) := by decide +kernel
theorem dX10_pilot_40 : decode cX10_pilot 40 = .ok (.bipush 60, 2) := by decide +kernel
theorem dX10_pilot_42 : decode cX10_pilot 42 = .ok (.if_icmp .ne 7, 3) := by decide +kernel
theorem dX10_pilot_45 : decode cX10_pilot 45 = .ok (.iconst 2, 1) := by decide +kernel
theorem dX10_pilot_46 : decode cX10_pilot 46 = .ok (.goto 4, 3) := by decide +kernel
theorem dX10_pilot_49 : decode cX10_pilot 49 = .ok (.iconst 0, 1) := by decide +kernel
theorem dX10_pilot_50 : decode cX10_pilot 50 = .ok (.putfield 147, 3) := by decide +kernel
theorem dX10_pilot_53 : decode cX10_pilot 53 = .ok (.aload_n 0, 1) := by decide +kernel
theorem dX10_pilot_54 : decode cX10_pilot 54 = .ok (.getfield 147, 3) := by decide +kernel
theorem dX10_pilot_57 : decode cX10_pilot 57 = .ok (.ifCond .le 5, 3) := by decide +kernel
theorem dX10_pilot_60 : decode cX10_pilot 60 = .ok (.iconst 0, 1) := by decide +kernel
theorem dX10_pilot_61 : decode cX10_pilot 61 = .ok (.ireturn, 1) := by decide +kernel
theorem dX10_pilot_62 : decode cX10_pilot 62 = .ok (.aload_n 0, 1) := by decide +kernel
theorem dX10_pilot_63 : decode cX10_pilot 63 = .ok (.getfield 150, 3) := by decide +kernel
theorem dX10_pilot_66 : decode cX10_pilot 66 = .ok (.istore 4, 2) := by decide +kernel
theorem dX10_pilot_68 : decode cX10_pilot 68 = .ok (.aload_n 0, 1) := by decide +kernel
theorem dX10_pilot_69 : decode cX10_pilot 69 = .ok (.getfield 7, 3) := by decide +kernel
theorem dX10_pilot_72 : decode cX10_pilot 72 = .ok (.iload 4, 2) := by decide +kernel
theorem dX10_pilot_74 : decode cX10_pilot 74 = .ok (.iload_n 1, 1) := by decide +kernel
theorem dX10_pilot_75 : decode cX10_pilot 75 = .ok (.iastore, 1) := by decide +kernel
theorem dX10_pilot_76 : decode cX10_pilot 76 = .ok (.aload_n 0, 1) := by decide +kernel
theorem dX10_pilot_77 : decode cX10_pilot 77 = .ok (.getfield 13, 3) := by decide +kernel
theorem dX10_pilot_80 : decode cX10_pilot 80 = .ok (.iload 4, 2) := by decide +kernel
theorem dX10_pilot_82 : decode cX10_pilot 82 = .ok (.iload_n 2, 1) := by decide +kernel
theorem dX10_pilot_83 : decode cX10_pilot 83 = .ok (.iastore, 1) := by decide +kernel
theorem dX10_pilot_84 : decode cX10_pilot 84 = .ok (.aload_n 0, 1) := by decide +kernel
theorem dX10_pilot_85 : decode cX10_pilot 85 = .ok (.getfield 16, 3) := by decide +kernel
theorem dX10_pilot_88 : decode cX10_pilot 88 = .ok (.iload 4, 2) := by decide +kernel
theorem dX10_pilot_90 : decode cX10_pilot 90 = .ok (.iload_n 3, 1) := by decide +kernel
theorem dX10_pilot_91 : decode cX10_pilot 91 = .ok (.iastore, 1) := by decide +kernel
theorem dX10_pilot_92 : decode cX10_pilot 92 = .ok (.aload_n 0, 1) := by decide +kernel
theorem dX10_pilot_93 : decode cX10_pilot 93 = .ok (.getfield 19, 3) := by decide +kernel
theorem dX10_pilot_96 : decode cX10_pilot 96 = .ok (.iload 4, 2) := by decide +kernel
theorem dX10_pilot_98 : decode cX10_pilot 98 = .ok (.iconst 1, 1) := by decide +kernel
theorem dX10_pilot_99 : decode cX10_pilot 99 = .ok (.bastore, 1) := by decide +kernel
theorem dX10_pilot_100 : decode cX10_pilot 100 = .ok (.aload_n 0, 1) := by decide +kernel
theorem dX10_pilot_101 : decode cX10_pilot 101 = .ok (.getfield 26, 3) := by decide +kernel
theorem dX10_pilot_104 : decode cX10_pilot 104 = .ok (.iload 4, 2) := by decide +kernel
