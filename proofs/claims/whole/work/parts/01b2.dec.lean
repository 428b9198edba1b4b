theorem dX10_pilot_106 : decode cX10_pilot 106 = .ok (.iconst 0, 1) := by decide +kernel
theorem dX10_pilot_107 : decode cX10_pilot 107 = .ok (.iastore, 1) := by decide +kernel
theorem dX10_pilot_108 : decode cX10_pilot 108 = .ok (.aload_n 0, 1) := by decide +kernel
theorem dX10_pilot_109 : decode cX10_pilot 109 = .ok (.getfield 41, 3) := by decide +kernel
theorem dX10_pilot_112 : decode cX10_pilot 112 = .ok (.iload 4, 2) := by decide +kernel
theorem dX10_pilot_114 : decode cX10_pilot 114 = .ok (.iconst (-1), 1) := by decide +kernel
theorem dX10_pilot_115 : decode cX10_pilot 115 = .ok (.iastore, 1) := by decide +kernel
theorem dX10_pilot_116 : decode cX10_pilot 116 = .ok (.aload_n 0, 1) := by decide +kernel
theorem dX10_pilot_117 : decode cX10_pilot 117 = .ok (.getfield 47, 3) := by decide +kernel
theorem dX10_pilot_120 : decode cX10_pilot 120 = .ok (.iload 4, 2) := by decide +kernel
theorem dX10_pilot_122 : decode cX10_pilot 122 = .ok (.iconst (-1), 1) := by decide +kernel
theorem dX10_pilot_123 : decode cX10_pilot 123 = .ok (.iastore, 1) := by decide +kernel
theorem dX10_pilot_124 : decode cX10_pilot 124 = .ok (.aload_n 0, 1) := by decide +kernel
theorem dX10_pilot_125 : decode cX10_pilot 125 = .ok (.dup, 1) := by decide +kernel
theorem dX10_pilot_126 : decode cX10_pilot 126 = .ok (.getfield 150, 3) := by decide +kernel
theorem dX10_pilot_129 : decode cX10_pilot 129 = .ok (.iconst 1, 1) := by decide +kernel
theorem dX10_pilot_130 : decode cX10_pilot 130 = .ok (.iadd, 1) := by decide +kernel
theorem dX10_pilot_131 : decode cX10_pilot 131 = .ok (.putfield 150, 3) := by decide +kernel
theorem dX10_pilot_134 : decode cX10_pilot 134 = .ok (.aload_n 0, 1) := by decide +kernel
theorem dX10_pilot_135 : decode cX10_pilot 135 = .ok (.getfield 53, 3) := by decide +kernel
theorem dX10_pilot_138 : decode cX10_pilot 138 = .ok (.aload_n 0, 1) := by decide +kernel
theorem dX10_pilot_139 : decode cX10_pilot 139 = .ok (.getfield 160, 3) := by decide +kernel
theorem dX10_pilot_142 : decode cX10_pilot 142 = .ok (.iload 4, 2) := by decide +kernel
theorem dX10_pilot_144 : decode cX10_pilot 144 = .ok (.iastore, 1) := by decide +kernel
theorem dX10_pilot_145 : decode cX10_pilot 145 = .ok (.aload_n 0, 1) := by decide +kernel
theorem dX10_pilot_146 : decode cX10_pilot 146 = .ok (.dup, 1) := by decide +kernel
theorem dX10_pilot_147 : decode cX10_pilot 147 = .ok (.getfield 160, 3) := by decide +kernel
theorem dX10_pilot_150 : decode cX10_pilot 150 = .ok (.iconst 1, 1) := by decide +kernel
theorem dX10_pilot_151 : decode cX10_pilot 151 = .ok (.iadd, 1) := by decide +kernel
theorem dX10_pilot_152 : decode cX10_pilot 152 = .ok (.putfield 160, 3) := by decide +kernel
theorem dX10_pilot_155 : decode cX10_pilot 155 = .ok (.aload_n 0, 1) := by decide +kernel
theorem dX10_pilot_156 : decode cX10_pilot 156 = .ok (.iconst 0, 1) := by decide +kernel
theorem dX10_pilot_157 : decode cX10_pilot 157 = .ok (.putfield 163, 3) := by decide +kernel
theorem dX10_pilot_160 : decode cX10_pilot 160 = .ok (.iload 4, 2) := by decide +kernel
theorem dX10_pilot_162 : decode cX10_pilot 162 = .ok (.ireturn, 1) := by decide +kernel
theorem dX10_ship_0 : decode cX10_ship 0 = .ok (.aload_n 0, 1) := by decide +kernel
theorem dX10_ship_1 : decode cX10_ship 1 = .ok (.iload_n 2, 1) := by decide +kernel
theorem dX10_ship_2 : decode cX10_ship 2 = .ok (.iconst 1, 1) := by decide +kernel
theorem dX10_ship_3 : decode cX10_ship 3 = .ok (.sipush 400, 3) := by decide +kernel
theorem dX10_ship_6 : decode cX10_ship 6 = .ok (.invokestatic 156, 3) := by decide +kernel
theorem dX10_ship_9 : decode cX10_ship 9 = .ok (.ifCond .eq 33, 3) := by decide +kernel
theorem dX10_ship_12 : decode cX10_ship 12 = .ok (.iload_n 3, 1) := by decide +kernel
theorem dX10_ship_13 : decode cX10_ship 13 = .ok (.iconst 1, 1) := by decide +kernel
theorem dX10_ship_14 : decode cX10_ship 14 = .ok (.sipush 200, 3) := by decide +kernel
theorem dX10_ship_17 : decode cX10_ship 17 = .ok (.invokestatic 156, 3) := by decide +kernel
theorem dX10_ship_20 : decode cX10_ship 20 = .ok (.ifCond .eq 22, 3) := by decide +kernel
theorem dX10_ship_23 : decode cX10_ship 23 = .ok (.iload 4, 2) := by decide +kernel
theorem dX10_ship_25 : decode cX10_ship 25 = .ok (.iconst 0, 1) := by decide +kernel
theorem dX10_ship_26 : decode cX10_ship 26 = .ok (.sipush 9599, 3) := by decide +kernel
theorem dX10_ship_29 : decode cX10_ship 29 = .ok (.invokestatic 156, 3) := by decide +kernel
theorem dX10_ship_32 : decode cX10_ship 32 = .ok (.ifCond .eq 10, 3) := by decide +kernel
theorem dX10_ship_35 : decode cX10_ship 35 = .ok (.iload 5, 2) := by decide +kernel
theorem dX10_ship_37 : decode cX10_ship 37 = .ok (.bipush (-2), 2) := by decide +kernel
theorem dX10_ship_39 : decode cX10_ship 39 = .ok (.if_icmp .ge 7, 3) := by decide +kernel
theorem dX10_ship_42 : decode cX10_ship 42 = .ok (.iconst 1, 1) := by decide +kernel
theorem dX10_ship_43 : decode cX10_ship 43 = .ok (.goto 31, 3) := by decide +kernel
theorem dX10_ship_46 : decode cX10_ship 46 = .ok (.iload 5, 2) := by decide +kernel
theorem dX10_ship_48 : decode cX10_ship 48 = .ok (.aload_n 0, 1) := by decide +kernel
theorem dX10_ship_49 : decode cX10_ship 49 = .ok (.getfield 150, 3) := by decide +kernel
theorem dX10_ship_52 : decode cX10_ship 52 = .ok (.if_icmp .lt 7, 3) := by decide +kernel
theorem dX10_ship_55 : decode cX10_ship 55 = .ok (.iconst 2, 1) := by decide +kernel
theorem dX10_ship_56 : decode cX10_ship 56 = .ok (.goto 18, 3) := by decide +kernel
theorem dX10_ship_59 : decode cX10_ship 59 = .ok (.aload_n 0, 1) := by decide +kernel
theorem dX10_ship_60 : decode cX10_ship 60 = .ok (.getfield 153, 3) := by decide +kernel
theorem dX10_ship_63 : decode cX10_ship 63 = .ok (.sipush 400, 3) := by decide +kernel
theorem dX10_ship_66 : decode cX10_ship 66 = .ok (.if_icmp .ne 7, 3) := by decide +kernel
theorem dX10_ship_69 : decode cX10_ship 69 = .ok (.iconst 3, 1) := by decide +kernel
theorem dX10_ship_70 : decode cX10_ship 70 = .ok (.goto 4, 3) := by decide +kernel
theorem dX10_ship_73 : decode cX10_ship 73 = .ok (.iconst 0, 1) := by decide +kernel
theorem dX10_ship_74 : decode cX10_ship 74 = .ok (.putfield 147, 3) := by decide +kernel
theorem dX10_ship_77 : decode cX10_ship 77 = .ok (.aload_n 0, 1) := by decide +kernel
theorem dX10_ship_78 : decode cX10_ship 78 = .ok (.getfield 147, 3) := by decide +kernel
theorem dX10_ship_81 : decode cX10_ship 81 = .ok (.ifCond .le 5, 3) := by decide +kernel
theorem dX10_ship_84 : decode cX10_ship 84 = .ok (.iconst 0, 1) := by decide +kernel
theorem dX10_ship_85 : decode cX10_ship 85 = .ok (.ireturn, 1) := by decide +kernel
theorem dX10_ship_86 : decode cX10_ship 86 = .ok (.aload_n 0, 1) := by decide +kernel
theorem dX10_ship_87 : decode cX10_ship 87 = .ok (.getfield 153, 3) := by decide +kernel
theorem dX10_ship_90 : decode cX10_ship 90 = .ok (.istore 7, 2) := by decide +kernel
theorem dX10_ship_92 : decode cX10_ship 92 = .ok (.aload_n 0, 1) := by decide +kernel
theorem dX10_ship_93 : decode cX10_ship 93 = .ok (.getfield 56, 3) := by decide +kernel
theorem dX10_ship_96 : decode cX10_ship 96 = .ok (.iload 7, 2) := by decide +kernel
theorem dX10_ship_98 : decode cX10_ship 98 = .ok (.iload_n 1, 1) := by decide +kernel
theorem dX10_ship_99 : decode cX10_ship 99 = .ok (.bastore, 1) := by decide +kernel
theorem dX10_ship_100 : decode cX10_ship 100 = .ok (.aload_n 0, 1) := by decide +kernel
theorem dX10_ship_101 : decode cX10_ship 101 = .ok (.getfield 59, 3) := by decide +kernel
theorem dX10_ship_104 : decode cX10_ship 104 = .ok (.iload 7, 2) := by decide +kernel
theorem dX10_ship_106 : decode cX10_ship 106 = .ok (.iload_n 2, 1) := by decide +kernel
theorem dX10_ship_107 : decode cX10_ship 107 = .ok (.iastore, 1) := by decide +kernel
theorem dX10_ship_108 : decode cX10_ship 108 = .ok (.aload_n 0, 1) := by decide +kernel
theorem dX10_ship_109 : decode cX10_ship 109 = .ok (.getfield 62, 3) := by decide +kernel
theorem dX10_ship_112 : decode cX10_ship 112 = .ok (.iload 7, 2) := by decide +kernel
theorem dX10_ship_114 : decode cX10_ship 114 = .ok (.iload_n 3, 1) := by decide +kernel
theorem dX10_ship_115 : decode cX10_ship 115 = .ok (.iastore, 1) := by decide +kernel
theorem dX10_ship_116 : decode cX10_ship 116 = .ok (.aload_n 0, 1) := by decide +kernel
theorem dX10_ship_117 : decode cX10_ship 117 = .ok (.getfield 65, 3) := by decide +kernel
theorem dX10_ship_120 : decode cX10_ship 120 = .ok (.iload 7, 2) := by decide +kernel
theorem dX10_ship_122 : decode cX10_ship 122 = .ok (.iload 4, 2) := by decide +kernel
theorem dX10_ship_124 : decode cX10_ship 124 = .ok (.iastore, 1) := by decide +kernel
theorem dX10_ship_125 : decode cX10_ship 125 = .ok (.aload_n 0, 1) := by decide +kernel
theorem dX10_ship_126 : decode cX10_ship 126 = .ok (.getfield 68, 3) := by decide +kernel
theorem dX10_ship_129 : decode cX10_ship 129 = .ok (.iload 7, 2) := by decide +kernel
theorem dX10_ship_131 : decode cX10_ship 131 = .ok (.iload 5, 2) := by decide +kernel
theorem dX10_ship_133 : decode cX10_ship 133 = .ok (.iastore, 1) := by decide +kernel
theorem dX10_ship_134 : decode cX10_ship 134 = .ok (.aload_n 0, 1) := by decide +kernel
theorem dX10_ship_135 : decode cX10_ship 135 = .ok (.getfield 71, 3) := by decide +kernel
theorem dX10_ship_138 : decode cX10_ship 138 = .ok (.iload 7, 2) := by decide +kernel
theorem dX10_ship_140 : decode cX10_ship 140 = .ok (.iload 6, 2) := by decide +kernel
theorem dX10_ship_142 : decode cX10_ship 142 = .ok (.bastore, 1) := by decide +kernel
theorem dX10_ship_143 : decode cX10_ship 143 = .ok (.aload_n 0, 1) := by decide +kernel
theorem dX10_ship_144 : decode cX10_ship 144 = .ok (.getfield 74, 3) := by decide +kernel
theorem dX10_ship_147 : decode cX10_ship 147 = .ok (.iload 7, 2) := by decide +kernel
theorem dX10_ship_149 : decode cX10_ship 149 = .ok (.iconst 0, 1) := by decide +kernel
theorem dX10_ship_150 : decode cX10_ship 150 = .ok (.iastore, 1) := by decide +kernel
theorem dX10_ship_151 : decode cX10_ship 151 = .ok (.aload_n 0, 1) := by decide +kernel
theorem dX10_ship_152 : decode cX10_ship 152 = .ok (.getfield 77, 3) := by decide +kernel
theorem dX10_ship_155 : decode cX10_ship 155 = .ok (.iload 7, 2) := by decide +kernel
theorem dX10_ship_157 : decode cX10_ship 157 = .ok (.iconst (-1), 1) := by decide +kernel
theorem dX10_ship_158 : decode cX10_ship 158 = .ok (.iastore, 1) := by decide +kernel
theorem dX10_ship_159 : decode cX10_ship 159 = .ok (.aload_n 0, 1) := by decide +kernel
theorem dX10_ship_160 : decode cX10_ship 160 = .ok (.getfield 80, 3) := by decide +kernel
theorem dX10_ship_163 : decode cX10_ship 163 = .ok (.iload 7, 2) := by decide +kernel
theorem dX10_ship_165 : decode cX10_ship 165 = .ok (.iconst (-1), 1) := by decide +kernel
theorem dX10_ship_166 : decode cX10_ship 166 = .ok (.iastore, 1) := by decide +kernel
theorem dX10_ship_167 : decode cX10_ship 167 = .ok (.aload_n 0, 1) := by decide +kernel
theorem dX10_ship_168 : decode cX10_ship 168 = .ok (.getfield 83, 3) := by decide +kernel
theorem dX10_ship_171 : decode cX10_ship 171 = .ok (.iload 7, 2) := by decide +kernel
theorem dX10_ship_173 : decode cX10_ship 173 = .ok (.iconst (-1), 1) := by decide +kernel
theorem dX10_ship_174 : decode cX10_ship 174 = .ok (.iastore, 1) := by decide +kernel
theorem dX10_ship_175 : decode cX10_ship 175 = .ok (.aload_n 0, 1) := by decide +kernel
theorem dX10_ship_176 : decode cX10_ship 176 = .ok (.getfield 86, 3) := by decide +kernel
theorem dX10_ship_179 : decode cX10_ship 179 = .ok (.iload 7, 2) := by decide +kernel
theorem dX10_ship_181 : decode cX10_ship 181 = .ok (.iconst (-1), 1) := by decide +kernel
theorem dX10_ship_182 : decode cX10_ship 182 = .ok (.iastore, 1) := by decide +kernel
theorem dX10_ship_183 : decode cX10_ship 183 = .ok (.aload_n 0, 1) := by decide +kernel
theorem dX10_ship_184 : decode cX10_ship 184 = .ok (.dup, 1) := by decide +kernel
theorem dX10_ship_185 : decode cX10_ship 185 = .ok (.getfield 153, 3) := by decide +kernel
theorem dX10_ship_188 : decode cX10_ship 188 = .ok (.iconst 1, 1) := by decide +kernel
theorem dX10_ship_189 : decode cX10_ship 189 = .ok (.iadd, 1) := by decide +kernel
theorem dX10_ship_190 : decode cX10_ship 190 = .ok (.putfield 153, 3) := by decide +kernel
theorem dX10_ship_193 : decode cX10_ship 193 = .ok (.aload_n 0, 1) := by decide +kernel
theorem dX10_ship_194 : decode cX10_ship 194 = .ok (.iconst 0, 1) := by decide +kernel
theorem dX10_ship_195 : decode cX10_ship 195 = .ok (.putfield 163, 3) := by decide +kernel
theorem dX10_ship_198 : decode cX10_ship 198 = .ok (.iload 7, 2) := by decide +kernel
theorem dX10_ship_200 : decode cX10_ship 200 = .ok (.ireturn, 1) := by decide +kernel
theorem dX10_tide_0 : decode cX10_tide 0 = .ok (.aload_n 0, 1) := by decide +kernel
theorem dX10_tide_1 : decode cX10_tide 1 = .ok (.iload_n 1, 1) := by decide +kernel
theorem dX10_tide_2 : decode cX10_tide 2 = .ok (.invokestatic 167, 3) := by decide +kernel
theorem dX10_tide_5 : decode cX10_tide 5 = .ok (.ifCond .ne 7, 3) := by decide +kernel
theorem dX10_tide_8 : decode cX10_tide 8 = .ok (.iconst 1, 1) := by decide +kernel
theorem dX10_tide_9 : decode cX10_tide 9 = .ok (.goto 34, 3) := by decide +kernel
theorem dX10_tide_12 : decode cX10_tide 12 = .ok (.iload_n 2, 1) := by decide +kernel
theorem dX10_tide_13 : decode cX10_tide 13 = .ok (.iconst 0, 1) := by decide +kernel
theorem dX10_tide_14 : decode cX10_tide 14 = .ok (.sipush 200, 3) := by decide +kernel
theorem dX10_tide_17 : decode cX10_tide 17 = .ok (.invokestatic 156, 3) := by decide +kernel
theorem dX10_tide_20 : decode cX10_tide 20 = .ok (.ifCond .ne 7, 3) := by decide +kernel
theorem dX10_tide_23 : decode cX10_tide 23 = .ok (.iconst 2, 1) := by decide +kernel
theorem dX10_tide_24 : decode cX10_tide 24 = .ok (.goto 19, 3) := by decide +kernel
theorem dX10_tide_27 : decode cX10_tide 27 = .ok (.aload_n 0, 1) := by decide +kernel
theorem dX10_tide_28 : decode cX10_tide 28 = .ok (.getfield 101, 3) := by decide +kernel
theorem dX10_tide_31 : decode cX10_tide 31 = .ok (.iload_n 1, 1) := by decide +kernel
theorem dX10_tide_32 : decode cX10_tide 32 = .ok (.iaload, 1) := by decide +kernel
theorem dX10_tide_33 : decode cX10_tide 33 = .ok (.bipush 24, 2) := by decide +kernel
theorem dX10_tide_35 : decode cX10_tide 35 = .ok (.if_icmp .ne 7, 3) := by decide +kernel
theorem dX10_tide_38 : decode cX10_tide 38 = .ok (.iconst 3, 1) := by decide +kernel
theorem dX10_tide_39 : decode cX10_tide 39 = .ok (.goto 4, 3) := by decide +kernel
theorem dX10_tide_42 : decode cX10_tide 42 = .ok (.iconst 0, 1) := by decide +kernel
theorem dX10_tide_43 : decode cX10_tide 43 = .ok (.putfield 147, 3) := by decide +kernel
theorem dX10_tide_46 : decode cX10_tide 46 = .ok (.aload_n 0, 1) := by decide +kernel
theorem dX10_tide_47 : decode cX10_tide 47 = .ok (.getfield 147, 3) := by decide +kernel
theorem dX10_tide_50 : decode cX10_tide 50 = .ok (.ifCond .le 5, 3) := by decide +kernel
theorem dX10_tide_53 : decode cX10_tide 53 = .ok (.iconst 0, 1) := by decide +kernel
theorem dX10_tide_54 : decode cX10_tide 54 = .ok (.ireturn, 1) := by decide +kernel
theorem dX10_tide_55 : decode cX10_tide 55 = .ok (.aload_n 0, 1) := by decide +kernel
theorem dX10_tide_56 : decode cX10_tide 56 = .ok (.getfield 104, 3) := by decide +kernel
theorem dX10_tide_59 : decode cX10_tide 59 = .ok (.iload_n 1, 1) := by decide +kernel
theorem dX10_tide_60 : decode cX10_tide 60 = .ok (.iconst 1, 1) := by decide +kernel
theorem dX10_tide_61 : decode cX10_tide 61 = .ok (.bastore, 1) := by decide +kernel
theorem dX10_tide_62 : decode cX10_tide 62 = .ok (.aload_n 0, 1) := by decide +kernel
theorem dX10_tide_63 : decode cX10_tide 63 = .ok (.getfield 98, 3) := by decide +kernel
theorem dX10_tide_66 : decode cX10_tide 66 = .ok (.bipush 24, 2) := by decide +kernel
theorem dX10_tide_68 : decode cX10_tide 68 = .ok (.iload_n 1, 1) := by decide +kernel
theorem dX10_tide_69 : decode cX10_tide 69 = .ok (.imul, 1) := by decide +kernel
theorem dX10_tide_70 : decode cX10_tide 70 = .ok (.aload_n 0, 1) := by decide +kernel
theorem dX10_tide_71 : decode cX10_tide 71 = .ok (.getfield 101, 3) := by decide +kernel
theorem dX10_tide_74 : decode cX10_tide 74 = .ok (.iload_n 1, 1) := by decide +kernel
theorem dX10_tide_75 : decode cX10_tide 75 = .ok (.iaload, 1) := by decide +kernel
theorem dX10_tide_76 : decode cX10_tide 76 = .ok (.iadd, 1) := by decide +kernel
theorem dX10_tide_77 : decode cX10_tide 77 = .ok (.iload_n 2, 1) := by decide +kernel
theorem dX10_tide_78 : decode cX10_tide 78 = .ok (.iastore, 1) := by decide +kernel
theorem dX10_tide_79 : decode cX10_tide 79 = .ok (.aload_n 0, 1) := by decide +kernel
theorem dX10_tide_80 : decode cX10_tide 80 = .ok (.getfield 101, 3) := by decide +kernel
theorem dX10_tide_83 : decode cX10_tide 83 = .ok (.iload_n 1, 1) := by decide +kernel
theorem dX10_tide_84 : decode cX10_tide 84 = .ok (.dup2, 1) := by decide +kernel
theorem dX10_tide_85 : decode cX10_tide 85 = .ok (.iaload, 1) := by decide +kernel
theorem dX10_tide_86 : decode cX10_tide 86 = .ok (.iconst 1, 1) := by decide +kernel
theorem dX10_tide_87 : decode cX10_tide 87 = .ok (.iadd, 1) := by decide +kernel
theorem dX10_tide_88 : decode cX10_tide 88 = .ok (.iastore, 1) := by decide +kernel
theorem dX10_tide_89 : decode cX10_tide 89 = .ok (.aload_n 0, 1) := by decide +kernel
theorem dX10_tide_90 : decode cX10_tide 90 = .ok (.iconst 0, 1) := by decide +kernel
theorem dX10_tide_91 : decode cX10_tide 91 = .ok (.putfield 163, 3) := by decide +kernel
theorem dX10_tide_94 : decode cX10_tide 94 = .ok (.aload_n 0, 1) := by decide +kernel
theorem dX10_tide_95 : decode cX10_tide 95 = .ok (.getfield 101, 3) := by decide +kernel
theorem dX10_tide_98 : decode cX10_tide 98 = .ok (.iload_n 1, 1) := by decide +kernel
theorem dX10_tide_99 : decode cX10_tide 99 = .ok (.iaload, 1) := by decide +kernel
theorem dX10_tide_100 : decode cX10_tide 100 = .ok (.ireturn, 1) := by decide +kernel
theorem dX10_tear_0 : decode cX10_tear 0 = .ok (.aload_n 0, 1) := by decide +kernel
theorem dX10_tear_1 : decode cX10_tear 1 = .ok (.iload_n 1, 1) := by decide +kernel
theorem dX10_tear_2 : decode cX10_tear 2 = .ok (.invokestatic 167, 3) := by decide +kernel
theorem dX10_tear_5 : decode cX10_tear 5 = .ok (.ifCond .ne 7, 3) := by decide +kernel
theorem dX10_tear_8 : decode cX10_tear 8 = .ok (.iconst 1, 1) := by decide +kernel
theorem dX10_tear_9 : decode cX10_tear 9 = .ok (.goto 4, 3) := by decide +kernel
theorem dX10_tear_12 : decode cX10_tear 12 = .ok (.iconst 0, 1) := by decide +kernel
theorem dX10_tear_13 : decode cX10_tear 13 = .ok (.putfield 147, 3) := by decide +kernel
theorem dX10_tear_16 : decode cX10_tear 16 = .ok (.aload_n 0, 1) := by decide +kernel
theorem dX10_tear_17 : decode cX10_tear 17 = .ok (.getfield 147, 3) := by decide +kernel
theorem dX10_tear_20 : decode cX10_tear 20 = .ok (.ifCond .le 5, 3) := by decide +kernel
theorem dX10_tear_23 : decode cX10_tear 23 = .ok (.iconst 0, 1) := by decide +kernel
theorem dX10_tear_24 : decode cX10_tear 24 = .ok (.ireturn, 1) := by decide +kernel
theorem dX10_tear_25 : decode cX10_tear 25 = .ok (.aload_n 0, 1) := by decide +kernel
theorem dX10_tear_26 : decode cX10_tear 26 = .ok (.getfield 104, 3) := by decide +kernel
theorem dX10_tear_29 : decode cX10_tear 29 = .ok (.iload_n 1, 1) := by decide +kernel
theorem dX10_tear_30 : decode cX10_tear 30 = .ok (.baload, 1) := by decide +kernel
theorem dX10_tear_31 : decode cX10_tear 31 = .ok (.istore_n 2, 1) := by decide +kernel
theorem dX10_tear_32 : decode cX10_tear 32 = .ok (.aload_n 0, 1) := by decide +kernel
theorem dX10_tear_33 : decode cX10_tear 33 = .ok (.getfield 104, 3) := by decide +kernel
theorem dX10_tear_36 : decode cX10_tear 36 = .ok (.iload_n 1, 1) := by decide +kernel
theorem dX10_tear_37 : decode cX10_tear 37 = .ok (.iconst 0, 1) := by decide +kernel
theorem dX10_tear_38 : decode cX10_tear 38 = .ok (.bastore, 1) := by decide +kernel
theorem dX10_tear_39 : decode cX10_tear 39 = .ok (.aload_n 0, 1) := by decide +kernel
theorem dX10_tear_40 : decode cX10_tear 40 = .ok (.getfield 101, 3) := by decide +kernel
theorem dX10_tear_43 : decode cX10_tear 43 = .ok (.iload_n 1, 1) := by decide +kernel
theorem dX10_tear_44 : decode cX10_tear 44 = .ok (.iconst 0, 1) := by decide +kernel
theorem dX10_tear_45 : decode cX10_tear 45 = .ok (.iastore, 1) := by decide +kernel
theorem dX10_tear_46 : decode cX10_tear 46 = .ok (.aload_n 0, 1) := by decide +kernel
theorem dX10_tear_47 : decode cX10_tear 47 = .ok (.iconst 0, 1) := by decide +kernel
theorem dX10_tear_48 : decode cX10_tear 48 = .ok (.putfield 163, 3) := by decide +kernel
theorem dX10_tear_51 : decode cX10_tear 51 = .ok (.iload_n 2, 1) := by decide +kernel
theorem dX10_tear_52 : decode cX10_tear 52 = .ok (.ireturn, 1) := by decide +kernel
theorem dX10_boat_0 : decode cX10_boat 0 = .ok (.aload_n 0, 1) := by decide +kernel
theorem dX10_boat_1 : decode cX10_boat 1 = .ok (.iload_n 1, 1) := by decide +kernel
theorem dX10_boat_2 : decode cX10_boat 2 = .ok (.iconst 0, 1) := by decide +kernel
theorem dX10_boat_3 : decode cX10_boat 3 = .ok (.ldc 171, 2) := by decide +kernel
theorem dX10_boat_5 : decode cX10_boat 5 = .ok (.invokestatic 156, 3) := by decide +kernel
theorem dX10_boat_8 : decode cX10_boat 8 = .ok (.ifCond .eq 13, 3) := by decide +kernel
theorem dX10_boat_11 : decode cX10_boat 11 = .ok (.iload_n 2, 1) := by decide +kernel
theorem dX10_boat_12 : decode cX10_boat 12 = .ok (.iconst 1, 1) := by decide +kernel
theorem dX10_boat_13 : decode cX10_boat 13 = .ok (.bipush 20, 2) := by decide +kernel
theorem dX10_boat_15 : decode cX10_boat 15 = .ok (.invokestatic 156, 3) := by decide +kernel
theorem dX10_boat_18 : decode cX10_boat 18 = .ok (.ifCond .ne 7, 3) := by decide +kernel
theorem dX10_boat_21 : decode cX10_boat 21 = .ok (.iconst 1, 1) := by decide +kernel
theorem dX10_boat_22 : decode cX10_boat 22 = .ok (.goto 17, 3) := by decide +kernel
theorem dX10_boat_25 : decode cX10_boat 25 = .ok (.aload_n 0, 1) := by decide +kernel
theorem dX10_boat_26 : decode cX10_boat 26 = .ok (.getfield 172, 3) := by decide +kernel
theorem dX10_boat_29 : decode cX10_boat 29 = .ok (.bipush 12, 2) := by decide +kernel
theorem dX10_boat_31 : decode cX10_boat 31 = .ok (.if_icmp .ne 7, 3) := by decide +kernel
theorem dX10_boat_34 : decode cX10_boat 34 = .ok (.iconst 2, 1) := by decide +kernel
theorem dX10_boat_35 : decode cX10_boat 35 = .ok (.goto 4, 3) := by decide +kernel
theorem dX10_boat_38 : decode cX10_boat 38 = .ok (.iconst 0, 1) := by decide +kernel
theorem dX10_boat_39 : decode cX10_boat 39 = .ok (.putfield 147, 3) := by decide +kernel
theorem dX10_boat_42 : decode cX10_boat 42 = .ok (.aload_n 0, 1) := by decide +kernel
theorem dX10_boat_43 : decode cX10_boat 43 = .ok (.getfield 147, 3) := by decide +kernel
theorem dX10_boat_46 : decode cX10_boat 46 = .ok (.ifCond .le 5, 3) := by decide +kernel
theorem dX10_boat_49 : decode cX10_boat 49 = .ok (.iconst 0, 1) := by decide +kernel
theorem dX10_boat_50 : decode cX10_boat 50 = .ok (.ireturn, 1) := by decide +kernel
theorem dX10_boat_51 : decode cX10_boat 51 = .ok (.aload_n 0, 1) := by decide +kernel
theorem dX10_boat_52 : decode cX10_boat 52 = .ok (.getfield 107, 3) := by decide +kernel
theorem dX10_boat_55 : decode cX10_boat 55 = .ok (.aload_n 0, 1) := by decide +kernel
theorem dX10_boat_56 : decode cX10_boat 56 = .ok (.getfield 172, 3) := by decide +kernel
theorem dX10_boat_59 : decode cX10_boat 59 = .ok (.iload_n 1, 1) := by decide +kernel
theorem dX10_boat_60 : decode cX10_boat 60 = .ok (.iastore, 1) := by decide +kernel
theorem dX10_boat_61 : decode cX10_boat 61 = .ok (.aload_n 0, 1) := by decide +kernel
theorem dX10_boat_62 : decode cX10_boat 62 = .ok (.getfield 110, 3) := by decide +kernel
theorem dX10_boat_65 : decode cX10_boat 65 = .ok (.aload_n 0, 1) := by decide +kernel
theorem dX10_boat_66 : decode cX10_boat 66 = .ok (.getfield 172, 3) := by decide +kernel
theorem dX10_boat_69 : decode cX10_boat 69 = .ok (.iload_n 2, 1) := by decide +kernel
theorem dX10_boat_70 : decode cX10_boat 70 = .ok (.iastore, 1) := by decide +kernel
theorem dX10_boat_71 : decode cX10_boat 71 = .ok (.aload_n 0, 1) := by decide +kernel
theorem dX10_boat_72 : decode cX10_boat 72 = .ok (.dup, 1) := by decide +kernel
theorem dX10_boat_73 : decode cX10_boat 73 = .ok (.getfield 172, 3) := by decide +kernel
theorem dX10_boat_76 : decode cX10_boat 76 = .ok (.iconst 1, 1) := by decide +kernel
theorem dX10_boat_77 : decode cX10_boat 77 = .ok (.iadd, 1) := by decide +kernel
theorem dX10_boat_78 : decode cX10_boat 78 = .ok (.putfield 172, 3) := by decide +kernel
theorem dX10_boat_81 : decode cX10_boat 81 = .ok (.aload_n 0, 1) := by decide +kernel
theorem dX10_boat_82 : decode cX10_boat 82 = .ok (.iconst 0, 1) := by decide +kernel
theorem dX10_boat_83 : decode cX10_boat 83 = .ok (.putfield 163, 3) := by decide +kernel
theorem dX10_boat_86 : decode cX10_boat 86 = .ok (.aload_n 0, 1) := by decide +kernel
theorem dX10_boat_87 : decode cX10_boat 87 = .ok (.getfield 172, 3) := by decide +kernel
theorem dX10_boat_90 : decode cX10_boat 90 = .ok (.iconst 1, 1) := by decide +kernel
theorem dX10_boat_91 : decode cX10_boat 91 = .ok (.isub, 1) := by decide +kernel
theorem dX10_boat_92 : decode cX10_boat 92 = .ok (.ireturn, 1) := by decide +kernel
theorem dX10_road_0 : decode cX10_road 0 = .ok (.aload_n 0, 1) := by decide +kernel
theorem dX10_road_1 : decode cX10_road 1 = .ok (.iload_n 1, 1) := by decide +kernel
theorem dX10_road_2 : decode cX10_road 2 = .ok (.iconst 0, 1) := by decide +kernel
theorem dX10_road_3 : decode cX10_road 3 = .ok (.iconst 5, 1) := by decide +kernel
theorem dX10_road_4 : decode cX10_road 4 = .ok (.invokestatic 156, 3) := by decide +kernel
theorem dX10_road_7 : decode cX10_road 7 = .ok (.ifCond .ne 7, 3) := by decide +kernel
theorem dX10_road_10 : decode cX10_road 10 = .ok (.iconst 1, 1) := by decide +kernel
theorem dX10_road_11 : decode cX10_road 11 = .ok (.goto 4, 3) := by decide +kernel
theorem dX10_road_14 : decode cX10_road 14 = .ok (.iconst 0, 1) := by decide +kernel
theorem dX10_road_15 : decode cX10_road 15 = .ok (.putfield 147, 3) := by decide +kernel
theorem dX10_road_18 : decode cX10_road 18 = .ok (.aload_n 0, 1) := by decide +kernel
theorem dX10_road_19 : decode cX10_road 19 = .ok (.getfield 147, 3) := by decide +kernel
theorem dX10_road_22 : decode cX10_road 22 = .ok (.ifCond .le 4, 3) := by decide +kernel
theorem dX10_road_25 : decode cX10_road 25 = .ok (.return_, 1) := by decide +kernel
theorem dX10_road_26 : decode cX10_road 26 = .ok (.aload_n 0, 1) := by decide +kernel
theorem dX10_road_27 : decode cX10_road 27 = .ok (.iload_n 1, 1) := by decide +kernel
theorem dX10_road_28 : decode cX10_road 28 = .ok (.putfield 113, 3) := by decide +kernel
theorem dX10_road_31 : decode cX10_road 31 = .ok (.aload_n 0, 1) := by decide +kernel
theorem dX10_road_32 : decode cX10_road 32 = .ok (.iconst 0, 1) := by decide +kernel
theorem dX10_road_33 : decode cX10_road 33 = .ok (.putfield 163, 3) := by decide +kernel
theorem dX10_road_36 : decode cX10_road 36 = .ok (.return_, 1) := by decide +kernel
theorem dX10_rest_0 : decode cX10_rest 0 = .ok (.aload_n 0, 1) := by decide +kernel
theorem dX10_rest_1 : decode cX10_rest 1 = .ok (.iload_n 1, 1) := by decide +kernel
theorem dX10_rest_2 : decode cX10_rest 2 = .ok (.iconst 0, 1) := by decide +kernel
theorem dX10_rest_3 : decode cX10_rest 3 = .ok (.bipush 48, 2) := by decide +kernel
theorem dX10_rest_5 : decode cX10_rest 5 = .ok (.invokestatic 156, 3) := by decide +kernel
theorem dX10_rest_8 : decode cX10_rest 8 = .ok (.ifCond .eq 23, 3) := by decide +kernel
theorem dX10_rest_11 : decode cX10_rest 11 = .ok (.iload_n 2, 1) := by decide +kernel
theorem dX10_rest_12 : decode cX10_rest 12 = .ok (.iconst 0, 1) := by decide +kernel
theorem dX10_rest_13 : decode cX10_rest 13 = .ok (.bipush 48, 2) := by decide +kernel
theorem dX10_rest_15 : decode cX10_rest 15 = .ok (.invokestatic 156, 3) := by decide +kernel
theorem dX10_rest_18 : decode cX10_rest 18 = .ok (.ifCond .eq 13, 3) := by decide +kernel
theorem dX10_rest_21 : decode cX10_rest 21 = .ok (.iload_n 3, 1) := by decide +kernel
theorem dX10_rest_22 : decode cX10_rest 22 = .ok (.iconst 0, 1) := by decide +kernel
theorem dX10_rest_23 : decode cX10_rest 23 = .ok (.bipush 48, 2) := by decide +kernel
theorem dX10_rest_25 : decode cX10_rest 25 = .ok (.invokestatic 156, 3) := by decide +kernel
theorem dX10_rest_28 : decode cX10_rest 28 = .ok (.ifCond .ne 7, 3) := by decide +kernel
theorem dX10_rest_31 : decode cX10_rest 31 = .ok (.iconst 1, 1) := by decide +kernel
theorem dX10_rest_32 : decode cX10_rest 32 = .ok (.goto 4, 3) := by decide +kernel
theorem dX10_rest_35 : decode cX10_rest 35 = .ok (.iconst 0, 1) := by decide +kernel
theorem dX10_rest_36 : decode cX10_rest 36 = .ok (.putfield 147, 3) := by decide +kernel
theorem dX10_rest_39 : decode cX10_rest 39 = .ok (.aload_n 0, 1) := by decide +kernel
theorem dX10_rest_40 : decode cX10_rest 40 = .ok (.getfield 147, 3) := by decide +kernel
theorem dX10_rest_43 : decode cX10_rest 43 = .ok (.ifCond .le 4, 3) := by decide +kernel
theorem dX10_rest_46 : decode cX10_rest 46 = .ok (.return_, 1) := by decide +kernel
theorem dX10_rest_47 : decode cX10_rest 47 = .ok (.aload_n 0, 1) := by decide +kernel
theorem dX10_rest_48 : decode cX10_rest 48 = .ok (.iload_n 1, 1) := by decide +kernel
theorem dX10_rest_49 : decode cX10_rest 49 = .ok (.putfield 117, 3) := by decide +kernel
theorem dX10_rest_52 : decode cX10_rest 52 = .ok (.aload_n 0, 1) := by decide +kernel
theorem dX10_rest_53 : decode cX10_rest 53 = .ok (.iload_n 2, 1) := by decide +kernel
theorem dX10_rest_54 : decode cX10_rest 54 = .ok (.putfield 120, 3) := by decide +kernel
theorem dX10_rest_57 : decode cX10_rest 57 = .ok (.aload_n 0, 1) := by decide +kernel
theorem dX10_rest_58 : decode cX10_rest 58 = .ok (.iload_n 3, 1) := by decide +kernel
theorem dX10_rest_59 : decode cX10_rest 59 = .ok (.putfield 123, 3) := by decide +kernel
theorem dX10_rest_62 : decode cX10_rest 62 = .ok (.aload_n 0, 1) := by decide +kernel
theorem dX10_rest_63 : decode cX10_rest 63 = .ok (.iconst 0, 1) := by decide +kernel
theorem dX10_rest_64 : decode cX10_rest 64 = .ok (.putfield 163, 3) := by decide +kernel
theorem dX10_rest_67 : decode cX10_rest 67 = .ok (.return_, 1) := by decide +kernel
theorem dX10_off_0 : decode cX10_off 0 = .ok (.aload_n 0, 1) := by decide +kernel
theorem dX10_off_1 : decode cX10_off 1 = .ok (.aload_n 0, 1) := by decide +kernel
theorem dX10_off_2 : decode cX10_off 2 = .ok (.iload_n 1, 1) := by decide +kernel
theorem dX10_off_3 : decode cX10_off 3 = .ok (.invokevirtual 175, 3) := by decide +kernel
theorem dX10_off_6 : decode cX10_off 6 = .ok (.ifCond .eq 10, 3) := by decide +kernel
theorem dX10_off_9 : decode cX10_off 9 = .ok (.iload_n 2, 1) := by decide +kernel
theorem dX10_off_10 : decode cX10_off 10 = .ok (.invokestatic 167, 3) := by decide +kernel
theorem dX10_off_13 : decode cX10_off 13 = .ok (.ifCond .ne 7, 3) := by decide +kernel
theorem dX10_off_16 : decode cX10_off 16 = .ok (.iconst 1, 1) := by decide +kernel
theorem dX10_off_17 : decode cX10_off 17 = .ok (.goto 4, 3) := by decide +kernel
theorem dX10_off_20 : decode cX10_off 20 = .ok (.iconst 0, 1) := by decide +kernel
theorem dX10_off_21 : decode cX10_off 21 = .ok (.putfield 147, 3) := by decide +kernel
theorem dX10_off_24 : decode cX10_off 24 = .ok (.aload_n 0, 1) := by decide +kernel
theorem dX10_off_25 : decode cX10_off 25 = .ok (.getfield 147, 3) := by decide +kernel
theorem dX10_off_28 : decode cX10_off 28 = .ok (.ifCond .le 5, 3) := by decide +kernel
theorem dX10_off_31 : decode cX10_off 31 = .ok (.iconst 0, 1) := by decide +kernel
theorem dX10_off_32 : decode cX10_off 32 = .ok (.ireturn, 1) := by decide +kernel
theorem dX10_off_33 : decode cX10_off 33 = .ok (.aload_n 0, 1) := by decide +kernel
theorem dX10_off_34 : decode cX10_off 34 = .ok (.getfield 23, 3) := by decide +kernel
theorem dX10_off_37 : decode cX10_off 37 = .ok (.sipush 400, 3) := by decide +kernel
theorem dX10_off_40 : decode cX10_off 40 = .ok (.iload_n 1, 1) := by decide +kernel
theorem dX10_off_41 : decode cX10_off 41 = .ok (.imul, 1) := by decide +kernel
theorem dX10_off_42 : decode cX10_off 42 = .ok (.iload_n 2, 1) := by decide +kernel
theorem dX10_off_43 : decode cX10_off 43 = .ok (.iadd, 1) := by decide +kernel
theorem dX10_off_44 : decode cX10_off 44 = .ok (.baload, 1) := by decide +kernel
theorem dX10_off_45 : decode cX10_off 45 = .ok (.istore 4, 2) := by decide +kernel
theorem dX10_off_47 : decode cX10_off 47 = .ok (.aload_n 0, 1) := by decide +kernel
theorem dX10_off_48 : decode cX10_off 48 = .ok (.getfield 23, 3) := by decide +kernel
theorem dX10_off_51 : decode cX10_off 51 = .ok (.sipush 400, 3) := by decide +kernel
theorem dX10_off_54 : decode cX10_off 54 = .ok (.iload_n 1, 1) := by decide +kernel
theorem dX10_off_55 : decode cX10_off 55 = .ok (.imul, 1) := by decide +kernel
theorem dX10_off_56 : decode cX10_off 56 = .ok (.iload_n 2, 1) := by decide +kernel
theorem dX10_off_57 : decode cX10_off 57 = .ok (.iadd, 1) := by decide +kernel
theorem dX10_off_58 : decode cX10_off 58 = .ok (.iload_n 3, 1) := by decide +kernel
theorem dX10_off_59 : decode cX10_off 59 = .ok (.bastore, 1) := by decide +kernel
theorem dX10_off_60 : decode cX10_off 60 = .ok (.aload_n 0, 1) := by decide +kernel
theorem dX10_off_61 : decode cX10_off 61 = .ok (.iconst 0, 1) := by decide +kernel
theorem dX10_off_62 : decode cX10_off 62 = .ok (.putfield 163, 3) := by decide +kernel
theorem dX10_off_65 : decode cX10_off 65 = .ok (.iload 4, 2) := by decide +kernel
theorem dX10_off_67 : decode cX10_off 67 = .ok (.iload_n 3, 1) := by decide +kernel
theorem dX10_off_68 : decode cX10_off 68 = .ok (.if_icmp .eq 7, 3) := by decide +kernel
theorem dX10_off_71 : decode cX10_off 71 = .ok (.iconst 1, 1) := by decide +kernel
theorem dX10_off_72 : decode cX10_off 72 = .ok (.goto 4, 3) := by decide +kernel
theorem dX10_off_75 : decode cX10_off 75 = .ok (.iconst 0, 1) := by decide +kernel
theorem dX10_off_76 : decode cX10_off 76 = .ok (.ireturn, 1) := by decide +kernel
theorem dX10_will_0 : decode cX10_will 0 = .ok (.aload_n 0, 1) := by decide +kernel
theorem dX10_will_1 : decode cX10_will 1 = .ok (.aload_n 0, 1) := by decide +kernel
theorem dX10_will_2 : decode cX10_will 2 = .ok (.iload_n 1, 1) := by decide +kernel
theorem dX10_will_3 : decode cX10_will 3 = .ok (.invokevirtual 175, 3) := by decide +kernel
theorem dX10_will_6 : decode cX10_will 6 = .ok (.ifCond .ne 7, 3) := by decide +kernel
theorem dX10_will_9 : decode cX10_will 9 = .ok (.iconst 1, 1) := by decide +kernel
theorem dX10_will_10 : decode cX10_will 10 = .ok (.goto 4, 3) := by decide +kernel
theorem dX10_will_13 : decode cX10_will 13 = .ok (.iconst 0, 1) := by decide +kernel
theorem dX10_will_14 : decode cX10_will 14 = .ok (.putfield 147, 3) := by decide +kernel
theorem dX10_will_17 : decode cX10_will 17 = .ok (.aload_n 0, 1) := by decide +kernel
theorem dX10_will_18 : decode cX10_will 18 = .ok (.getfield 147, 3) := by decide +kernel
theorem dX10_will_21 : decode cX10_will 21 = .ok (.ifCond .le 5, 3) := by decide +kernel
theorem dX10_will_24 : decode cX10_will 24 = .ok (.iconst 0, 1) := by decide +kernel
theorem dX10_will_25 : decode cX10_will 25 = .ok (.ireturn, 1) := by decide +kernel
theorem dX10_will_26 : decode cX10_will 26 = .ok (.aload_n 0, 1) := by decide +kernel
theorem dX10_will_27 : decode cX10_will 27 = .ok (.getfield 19, 3) := by decide +kernel
theorem dX10_will_30 : decode cX10_will 30 = .ok (.iload_n 1, 1) := by decide +kernel
theorem dX10_will_31 : decode cX10_will 31 = .ok (.baload, 1) := by decide +kernel
theorem dX10_will_32 : decode cX10_will 32 = .ok (.istore_n 3, 1) := by decide +kernel
theorem dX10_will_33 : decode cX10_will 33 = .ok (.aload_n 0, 1) := by decide +kernel
theorem dX10_will_34 : decode cX10_will 34 = .ok (.getfield 19, 3) := by decide +kernel
theorem dX10_will_37 : decode cX10_will 37 = .ok (.iload_n 1, 1) := by decide +kernel
theorem dX10_will_38 : decode cX10_will 38 = .ok (.iload_n 2, 1) := by decide +kernel
theorem dX10_will_39 : decode cX10_will 39 = .ok (.bastore, 1) := by decide +kernel
theorem dX10_will_40 : decode cX10_will 40 = .ok (.aload_n 0, 1) := by decide +kernel
theorem dX10_will_41 : decode cX10_will 41 = .ok (.iconst 0, 1) := by decide +kernel
theorem dX10_will_42 : decode cX10_will 42 = .ok (.putfield 163, 3) := by decide +kernel
theorem dX10_will_45 : decode cX10_will 45 = .ok (.iload_n 3, 1) := by decide +kernel
theorem dX10_will_46 : decode cX10_will 46 = .ok (.iload_n 2, 1) := by decide +kernel
theorem dX10_will_47 : decode cX10_will 47 = .ok (.if_icmp .eq 7, 3) := by decide +kernel
theorem dX10_will_50 : decode cX10_will 50 = .ok (.iconst 1, 1) := by decide +kernel
theorem dX10_will_51 : decode cX10_will 51 = .ok (.goto 4, 3) := by decide +kernel
theorem dX10_will_54 : decode cX10_will 54 = .ok (.iconst 0, 1) := by decide +kernel
theorem dX10_will_55 : decode cX10_will 55 = .ok (.ireturn, 1) := by decide +kernel
theorem dX10_mayLead_0 : decode cX10_mayLead 0 = .ok (.aload_n 0, 1) := by decide +kernel
theorem dX10_mayLead_1 : decode cX10_mayLead 1 = .ok (.getfield 59, 3) := by decide +kernel
theorem dX10_mayLead_4 : decode cX10_mayLead 4 = .ok (.iload_n 2, 1) := by decide +kernel
theorem dX10_mayLead_5 : decode cX10_mayLead 5 = .ok (.iaload, 1) := by decide +kernel
theorem dX10_mayLead_6 : decode cX10_mayLead 6 = .ok (.aload_n 0, 1) := by decide +kernel
theorem dX10_mayLead_7 : decode cX10_mayLead 7 = .ok (.getfield 13, 3) := by decide +kernel
theorem dX10_mayLead_10 : decode cX10_mayLead 10 = .ok (.iload_n 1, 1) := by decide +kernel
theorem dX10_mayLead_11 : decode cX10_mayLead 11 = .ok (.iaload, 1) := by decide +kernel
theorem dX10_mayLead_12 : decode cX10_mayLead 12 = .ok (.if_icmp .gt 22, 3) := by decide +kernel
theorem dX10_mayLead_15 : decode cX10_mayLead 15 = .ok (.aload_n 0, 1) := by decide +kernel
theorem dX10_mayLead_16 : decode cX10_mayLead 16 = .ok (.getfield 62, 3) := by decide +kernel
theorem dX10_mayLead_19 : decode cX10_mayLead 19 = .ok (.iload_n 2, 1) := by decide +kernel
theorem dX10_mayLead_20 : decode cX10_mayLead 20 = .ok (.iaload, 1) := by decide +kernel
theorem dX10_mayLead_21 : decode cX10_mayLead 21 = .ok (.aload_n 0, 1) := by decide +kernel
theorem dX10_mayLead_22 : decode cX10_mayLead 22 = .ok (.getfield 16, 3) := by decide +kernel
theorem dX10_mayLead_25 : decode cX10_mayLead 25 = .ok (.iload_n 1, 1) := by decide +kernel
theorem dX10_mayLead_26 : decode cX10_mayLead 26 = .ok (.iaload, 1) := by decide +kernel
theorem dX10_mayLead_27 : decode cX10_mayLead 27 = .ok (.if_icmp .gt 7, 3) := by decide +kernel
theorem dX10_mayLead_30 : decode cX10_mayLead 30 = .ok (.iconst 1, 1) := by decide +kernel
theorem dX10_mayLead_31 : decode cX10_mayLead 31 = .ok (.goto 4, 3) := by decide +kernel
theorem dX10_mayLead_34 : decode cX10_mayLead 34 = .ok (.iconst 0, 1) := by decide +kernel
theorem dX10_mayLead_35 : decode cX10_mayLead 35 = .ok (.istore_n 3, 1) := by decide +kernel
theorem dX10_mayLead_36 : decode cX10_mayLead 36 = .ok (.aload_n 0, 1) := by decide +kernel
theorem dX10_mayLead_37 : decode cX10_mayLead 37 = .ok (.getfield 7, 3) := by decide +kernel
theorem dX10_mayLead_40 : decode cX10_mayLead 40 = .ok (.iload_n 1, 1) := by decide +kernel
theorem dX10_mayLead_41 : decode cX10_mayLead 41 = .ok (.iaload, 1) := by decide +kernel
theorem dX10_mayLead_42 : decode cX10_mayLead 42 = .ok (.tableswitch 71 1 4 #[30, 32, 34, 51], 30) := by decide +kernel
theorem dX10_mayLead_72 : decode cX10_mayLead 72 = .ok (.iconst 1, 1) := by decide +kernel
theorem dX10_mayLead_73 : decode cX10_mayLead 73 = .ok (.ireturn, 1) := by decide +kernel
theorem dX10_mayLead_74 : decode cX10_mayLead 74 = .ok (.iconst 0, 1) := by decide +kernel
theorem dX10_mayLead_75 : decode cX10_mayLead 75 = .ok (.ireturn, 1) := by decide +kernel
theorem dX10_mayLead_76 : decode cX10_mayLead 76 = .ok (.aload_n 0, 1) := by decide +kernel
theorem dX10_mayLead_77 : decode cX10_mayLead 77 = .ok (.getfield 68, 3) := by decide +kernel
theorem dX10_mayLead_80 : decode cX10_mayLead 80 = .ok (.iload_n 2, 1) := by decide +kernel
theorem dX10_mayLead_81 : decode cX10_mayLead 81 = .ok (.iaload, 1) := by decide +kernel
theorem dX10_mayLead_82 : decode cX10_mayLead 82 = .ok (.bipush (-2), 2) := by decide +kernel
theorem dX10_mayLead_84 : decode cX10_mayLead 84 = .ok (.if_icmp .ne 7, 3) := by decide +kernel
theorem dX10_mayLead_87 : decode cX10_mayLead 87 = .ok (.iconst 1, 1) := by decide +kernel
theorem dX10_mayLead_88 : decode cX10_mayLead 88 = .ok (.goto 4, 3) := by decide +kernel
theorem dX10_mayLead_91 : decode cX10_mayLead 91 = .ok (.iconst 0, 1) := by decide +kernel
theorem dX10_mayLead_92 : decode cX10_mayLead 92 = .ok (.ireturn, 1) := by decide +kernel
theorem dX10_mayLead_93 : decode cX10_mayLead 93 = .ok (.iload_n 3, 1) := by decide +kernel
theorem dX10_mayLead_94 : decode cX10_mayLead 94 = .ok (.ifCond .eq 17, 3) := by decide +kernel
theorem dX10_mayLead_97 : decode cX10_mayLead 97 = .ok (.aload_n 0, 1) := by decide +kernel
theorem dX10_mayLead_98 : decode cX10_mayLead 98 = .ok (.getfield 68, 3) := by decide +kernel
theorem dX10_mayLead_101 : decode cX10_mayLead 101 = .ok (.iload_n 2, 1) := by decide +kernel
theorem dX10_mayLead_102 : decode cX10_mayLead 102 = .ok (.iaload, 1) := by decide +kernel
theorem dX10_mayLead_103 : decode cX10_mayLead 103 = .ok (.iload_n 1, 1) := by decide +kernel
theorem dX10_mayLead_104 : decode cX10_mayLead 104 = .ok (.if_icmp .ne 7, 3) := by decide +kernel
theorem dX10_mayLead_107 : decode cX10_mayLead 107 = .ok (.iconst 1, 1) := by decide +kernel
theorem dX10_mayLead_108 : decode cX10_mayLead 108 = .ok (.goto 4, 3) := by decide +kernel
theorem dX10_mayLead_111 : decode cX10_mayLead 111 = .ok (.iconst 0, 1) := by decide +kernel
theorem dX10_mayLead_112 : decode cX10_mayLead 112 = .ok (.ireturn, 1) := by decide +kernel
theorem dX10_mayLead_113 : decode cX10_mayLead 113 = .ok (.iload_n 3, 1) := by decide +kernel
theorem dX10_mayLead_114 : decode cX10_mayLead 114 = .ok (.ireturn, 1) := by decide +kernel
theorem dX10_hasWindow_0 : decode cX10_hasWindow 0 = .ok (.iload_n 2, 1) := by decide +kernel
theorem dX10_hasWindow_1 : decode cX10_hasWindow 1 = .ok (.bipush 24, 2) := by decide +kernel
theorem dX10_hasWindow_3 : decode cX10_hasWindow 3 = .ok (.idiv, 1) := by decide +kernel
theorem dX10_hasWindow_4 : decode cX10_hasWindow 4 = .ok (.istore_n 3, 1) := by decide +kernel
theorem dX10_hasWindow_5 : decode cX10_hasWindow 5 = .ok (.iload_n 2, 1) := by decide +kernel
theorem dX10_hasWindow_6 : decode cX10_hasWindow 6 = .ok (.bipush 24, 2) := by decide +kernel
theorem dX10_hasWindow_8 : decode cX10_hasWindow 8 = .ok (.irem, 1) := by decide +kernel
theorem dX10_hasWindow_9 : decode cX10_hasWindow 9 = .ok (.istore 4, 2) := by decide +kernel
theorem dX10_hasWindow_11 : decode cX10_hasWindow 11 = .ok (.aload_n 0, 1) := by decide +kernel
theorem dX10_hasWindow_12 : decode cX10_hasWindow 12 = .ok (.getfield 104, 3) := by decide +kernel
theorem dX10_hasWindow_15 : decode cX10_hasWindow 15 = .ok (.iload_n 3, 1) := by decide +kernel
theorem dX10_hasWindow_16 : decode cX10_hasWindow 16 = .ok (.baload, 1) := by decide +kernel
theorem dX10_hasWindow_17 : decode cX10_hasWindow 17 = .ok (.ifCond .eq 39, 3) := by decide +kernel
theorem dX10_hasWindow_20 : decode cX10_hasWindow 20 = .ok (.iload 4, 2) := by decide +kernel
theorem dX10_hasWindow_22 : decode cX10_hasWindow 22 = .ok (.aload_n 0, 1) := by decide +kernel
theorem dX10_hasWindow_23 : decode cX10_hasWindow 23 = .ok (.getfield 101, 3) := by decide +kernel
theorem dX10_hasWindow_26 : decode cX10_hasWindow 26 = .ok (.iload_n 3, 1) := by decide +kernel
theorem dX10_hasWindow_27 : decode cX10_hasWindow 27 = .ok (.iaload, 1) := by decide +kernel
theorem dX10_hasWindow_28 : decode cX10_hasWindow 28 = .ok (.if_icmp .ge 28, 3) := by decide +kernel
theorem dX10_hasWindow_31 : decode cX10_hasWindow 31 = .ok (.aload_n 0, 1) := by decide +kernel
theorem dX10_hasWindow_32 : decode cX10_hasWindow 32 = .ok (.getfield 62, 3) := by decide +kernel
theorem dX10_hasWindow_35 : decode cX10_hasWindow 35 = .ok (.iload_n 1, 1) := by decide +kernel
theorem dX10_hasWindow_36 : decode cX10_hasWindow 36 = .ok (.iaload, 1) := by decide +kernel
theorem dX10_hasWindow_37 : decode cX10_hasWindow 37 = .ok (.aload_n 0, 1) := by decide +kernel
theorem dX10_hasWindow_38 : decode cX10_hasWindow 38 = .ok (.getfield 98, 3) := by decide +kernel
theorem dX10_hasWindow_41 : decode cX10_hasWindow 41 = .ok (.bipush 24, 2) := by decide +kernel
theorem dX10_hasWindow_43 : decode cX10_hasWindow 43 = .ok (.iload_n 3, 1) := by decide +kernel
theorem dX10_hasWindow_44 : decode cX10_hasWindow 44 = .ok (.imul, 1) := by decide +kernel
theorem dX10_hasWindow_45 : decode cX10_hasWindow 45 = .ok (.iload 4, 2) := by decide +kernel
theorem dX10_hasWindow_47 : decode cX10_hasWindow 47 = .ok (.iadd, 1) := by decide +kernel
theorem dX10_hasWindow_48 : decode cX10_hasWindow 48 = .ok (.iaload, 1) := by decide +kernel
theorem dX10_hasWindow_49 : decode cX10_hasWindow 49 = .ok (.if_icmp .gt 7, 3) := by decide +kernel
theorem dX10_hasWindow_52 : decode cX10_hasWindow 52 = .ok (.iconst 1, 1) := by decide +kernel
theorem dX10_hasWindow_53 : decode cX10_hasWindow 53 = .ok (.goto 4, 3) := by decide +kernel
theorem dX10_hasWindow_56 : decode cX10_hasWindow 56 = .ok (.iconst 0, 1) := by decide +kernel
theorem dX10_hasWindow_57 : decode cX10_hasWindow 57 = .ok (.ireturn, 1) := by decide +kernel
theorem dX10_seatsOut_0 : decode cX10_seatsOut 0 = .ok (.iconst 0, 1) := by decide +kernel
theorem dX10_seatsOut_1 : decode cX10_seatsOut 1 = .ok (.istore_n 2, 1) := by decide +kernel
theorem dX10_seatsOut_2 : decode cX10_seatsOut 2 = .ok (.iconst 0, 1) := by decide +kernel
theorem dX10_seatsOut_3 : decode cX10_seatsOut 3 = .ok (.istore_n 3, 1) := by decide +kernel
theorem dX10_seatsOut_4 : decode cX10_seatsOut 4 = .ok (.iload_n 3, 1) := by decide +kernel
theorem dX10_seatsOut_5 : decode cX10_seatsOut 5 = .ok (.aload_n 0, 1) := by decide +kernel
theorem dX10_seatsOut_6 : decode cX10_seatsOut 6 = .ok (.getfield 172, 3) := by decide +kernel
theorem dX10_seatsOut_9 : decode cX10_seatsOut 9 = .ok (.if_icmp .ge 39, 3) := by decide +kernel
theorem dX10_seatsOut_12 : decode cX10_seatsOut 12 = .ok (.iload_n 2, 1) := by decide +kernel
theorem dX10_seatsOut_13 : decode cX10_seatsOut 13 = .ok (.aload_n 0, 1) := by decide +kernel
theorem dX10_seatsOut_14 : decode cX10_seatsOut 14 = .ok (.getfield 107, 3) := by decide +kernel
theorem dX10_seatsOut_17 : decode cX10_seatsOut 17 = .ok (.iload_n 3, 1) := by decide +kernel
theorem dX10_seatsOut_18 : decode cX10_seatsOut 18 = .ok (.iaload, 1) := by decide +kernel
theorem dX10_seatsOut_19 : decode cX10_seatsOut 19 = .ok (.iload_n 1, 1) := by decide +kernel
theorem dX10_seatsOut_20 : decode cX10_seatsOut 20 = .ok (.bipush 24, 2) := by decide +kernel
theorem dX10_seatsOut_22 : decode cX10_seatsOut 22 = .ok (.irem, 1) := by decide +kernel
theorem dX10_seatsOut_23 : decode cX10_seatsOut 23 = .ok (.ishr, 1) := by decide +kernel
theorem dX10_seatsOut_24 : decode cX10_seatsOut 24 = .ok (.iconst 1, 1) := by decide +kernel
theorem dX10_seatsOut_25 : decode cX10_seatsOut 25 = .ok (.iand, 1) := by decide +kernel
theorem dX10_seatsOut_26 : decode cX10_seatsOut 26 = .ok (.iconst 1, 1) := by decide +kernel
theorem dX10_seatsOut_27 : decode cX10_seatsOut 27 = .ok (.if_icmp .ne 12, 3) := by decide +kernel
theorem dX10_seatsOut_30 : decode cX10_seatsOut 30 = .ok (.aload_n 0, 1) := by decide +kernel
theorem dX10_seatsOut_31 : decode cX10_seatsOut 31 = .ok (.getfield 110, 3) := by decide +kernel
theorem dX10_seatsOut_34 : decode cX10_seatsOut 34 = .ok (.iload_n 3, 1) := by decide +kernel
theorem dX10_seatsOut_35 : decode cX10_seatsOut 35 = .ok (.iaload, 1) := by decide +kernel
theorem dX10_seatsOut_36 : decode cX10_seatsOut 36 = .ok (.goto 4, 3) := by decide +kernel
theorem dX10_seatsOut_39 : decode cX10_seatsOut 39 = .ok (.iconst 0, 1) := by decide +kernel
theorem dX10_seatsOut_40 : decode cX10_seatsOut 40 = .ok (.iadd, 1) := by decide +kernel
theorem dX10_seatsOut_41 : decode cX10_seatsOut 41 = .ok (.istore_n 2, 1) := by decide +kernel
theorem dX10_seatsOut_42 : decode cX10_seatsOut 42 = .ok (.iinc 3 1, 3) := by decide +kernel
theorem dX10_seatsOut_45 : decode cX10_seatsOut 45 = .ok (.goto (-41), 3) := by decide +kernel
theorem dX10_seatsOut_48 : decode cX10_seatsOut 48 = .ok (.iload_n 2, 1) := by decide +kernel
theorem dX10_seatsOut_49 : decode cX10_seatsOut 49 = .ok (.ireturn, 1) := by decide +kernel
theorem dX10_seatsBack_0 : decode cX10_seatsBack 0 = .ok (.iload_n 1, 1) := by decide +kernel
theorem dX10_seatsBack_1 : decode cX10_seatsBack 1 = .ok (.ifCond .ne 7, 3) := by decide +kernel
theorem dX10_seatsBack_4 : decode cX10_seatsBack 4 = .ok (.iconst 0, 1) := by decide +kernel
theorem dX10_seatsBack_5 : decode cX10_seatsBack 5 = .ok (.goto 10, 3) := by decide +kernel
theorem dX10_seatsBack_8 : decode cX10_seatsBack 8 = .ok (.aload_n 0, 1) := by decide +kernel
theorem dX10_seatsBack_9 : decode cX10_seatsBack 9 = .ok (.iload_n 1, 1) := by decide +kernel
theorem dX10_seatsBack_10 : decode cX10_seatsBack 10 = .ok (.iconst 1, 1) := by decide +kernel
theorem dX10_seatsBack_11 : decode cX10_seatsBack 11 = .ok (.isub, 1) := by decide +kernel
theorem dX10_seatsBack_12 : decode cX10_seatsBack 12 = .ok (.invokevirtual 178, 3) := by decide +kernel
theorem dX10_seatsBack_15 : decode cX10_seatsBack 15 = .ok (.ireturn, 1) := by decide +kernel
theorem dX10_isNight_0 : decode cX10_isNight 0 = .ok (.iload_n 0, 1) := by decide +kernel
theorem dX10_isNight_1 : decode cX10_isNight 1 = .ok (.bipush 24, 2) := by decide +kernel
theorem dX10_isNight_3 : decode cX10_isNight 3 = .ok (.irem, 1) := by decide +kernel
theorem dX10_isNight_4 : decode cX10_isNight 4 = .ok (.bipush 6, 2) := by decide +kernel
theorem dX10_isNight_6 : decode cX10_isNight 6 = .ok (.if_icmp .lt 12, 3) := by decide +kernel
theorem dX10_isNight_9 : decode cX10_isNight 9 = .ok (.iload_n 0, 1) := by decide +kernel
theorem dX10_isNight_10 : decode cX10_isNight 10 = .ok (.bipush 24, 2) := by decide +kernel
theorem dX10_isNight_12 : decode cX10_isNight 12 = .ok (.irem, 1) := by decide +kernel
theorem dX10_isNight_13 : decode cX10_isNight 13 = .ok (.bipush 21, 2) := by decide +kernel
theorem dX10_isNight_15 : decode cX10_isNight 15 = .ok (.if_icmp .le 7, 3) := by decide +kernel
theorem dX10_isNight_18 : decode cX10_isNight 18 = .ok (.iconst 1, 1) := by decide +kernel
theorem dX10_isNight_19 : decode cX10_isNight 19 = .ok (.goto 4, 3) := by decide +kernel
theorem dX10_isNight_22 : decode cX10_isNight 22 = .ok (.iconst 0, 1) := by decide +kernel
theorem dX10_isNight_23 : decode cX10_isNight 23 = .ok (.ireturn, 1) := by decide +kernel
theorem dX10_led_0 : decode cX10_led 0 = .ok (.iconst 1, 1) := by decide +kernel
theorem dX10_led_1 : decode cX10_led 1 = .ok (.aload_n 0, 1) := by decide +kernel
theorem dX10_led_2 : decode cX10_led 2 = .ok (.getfield 59, 3) := by decide +kernel
theorem dX10_led_5 : decode cX10_led 5 = .ok (.iload_n 1, 1) := by decide +kernel
theorem dX10_led_6 : decode cX10_led 6 = .ok (.iaload, 1) := by decide +kernel
theorem dX10_led_7 : decode cX10_led 7 = .ok (.bipush 100, 2) := by decide +kernel
theorem dX10_led_9 : decode cX10_led 9 = .ok (.idiv, 1) := by decide +kernel
theorem dX10_led_10 : decode cX10_led 10 = .ok (.iadd, 1) := by decide +kernel
theorem dX10_led_11 : decode cX10_led 11 = .ok (.ireturn, 1) := by decide +kernel
theorem dX10_placeOf_0 : decode cX10_placeOf 0 = .ok (.iconst 0, 1) := by decide +kernel
theorem dX10_placeOf_1 : decode cX10_placeOf 1 = .ok (.istore_n 2, 1) := by decide +kernel
theorem dX10_placeOf_2 : decode cX10_placeOf 2 = .ok (.iload_n 2, 1) := by decide +kernel
theorem dX10_placeOf_3 : decode cX10_placeOf 3 = .ok (.aload_n 0, 1) := by decide +kernel
theorem dX10_placeOf_4 : decode cX10_placeOf 4 = .ok (.getfield 160, 3) := by decide +kernel
theorem dX10_placeOf_7 : decode cX10_placeOf 7 = .ok (.if_icmp .ge 21, 3) := by decide +kernel
theorem dX10_placeOf_10 : decode cX10_placeOf 10 = .ok (.aload_n 0, 1) := by decide +kernel
theorem dX10_placeOf_11 : decode cX10_placeOf 11 = .ok (.getfield 53, 3) := by decide +kernel
theorem dX10_placeOf_14 : decode cX10_placeOf 14 = .ok (.iload_n 2, 1) := by decide +kernel
theorem dX10_placeOf_15 : decode cX10_placeOf 15 = .ok (.iaload, 1) := by decide +kernel
theorem dX10_placeOf_16 : decode cX10_placeOf 16 = .ok (.iload_n 1, 1) := by decide +kernel
theorem dX10_placeOf_17 : decode cX10_placeOf 17 = .ok (.if_icmp .ne 5, 3) := by decide +kernel
theorem dX10_placeOf_20 : decode cX10_placeOf 20 = .ok (.iload_n 2, 1) := by decide +kernel
theorem dX10_placeOf_21 : decode cX10_placeOf 21 = .ok (.ireturn, 1) := by decide +kernel
theorem dX10_placeOf_22 : decode cX10_placeOf 22 = .ok (.iinc 2 1, 3) := by decide +kernel
theorem dX10_placeOf_25 : decode cX10_placeOf 25 = .ok (.goto (-23), 3) := by decide +kernel
theorem dX10_placeOf_28 : decode cX10_placeOf 28 = .ok (.iconst (-1), 1) := by decide +kernel
theorem dX10_placeOf_29 : decode cX10_placeOf 29 = .ok (.ireturn, 1) := by decide +kernel
theorem dX10_takeOff_0 : decode cX10_takeOff 0 = .ok (.aload_n 0, 1) := by decide +kernel
theorem dX10_takeOff_1 : decode cX10_takeOff 1 = .ok (.iload_n 1, 1) := by decide +kernel
theorem dX10_takeOff_2 : decode cX10_takeOff 2 = .ok (.invokevirtual 182, 3) := by decide +kernel
theorem dX10_takeOff_5 : decode cX10_takeOff 5 = .ok (.istore_n 2, 1) := by decide +kernel
theorem dX10_takeOff_6 : decode cX10_takeOff 6 = .ok (.iload_n 2, 1) := by decide +kernel
theorem dX10_takeOff_7 : decode cX10_takeOff 7 = .ok (.istore_n 3, 1) := by decide +kernel
theorem dX10_takeOff_8 : decode cX10_takeOff 8 = .ok (.iload_n 3, 1) := by decide +kernel
theorem dX10_takeOff_9 : decode cX10_takeOff 9 = .ok (.aload_n 0, 1) := by decide +kernel
theorem dX10_takeOff_10 : decode cX10_takeOff 10 = .ok (.getfield 160, 3) := by decide +kernel
theorem dX10_takeOff_13 : decode cX10_takeOff 13 = .ok (.iconst 1, 1) := by decide +kernel
theorem dX10_takeOff_14 : decode cX10_takeOff 14 = .ok (.isub, 1) := by decide +kernel
theorem dX10_takeOff_15 : decode cX10_takeOff 15 = .ok (.if_icmp .ge 23, 3) := by decide +kernel
theorem dX10_takeOff_18 : decode cX10_takeOff 18 = .ok (.aload_n 0, 1) := by decide +kernel
theorem dX10_takeOff_19 : decode cX10_takeOff 19 = .ok (.getfield 53, 3) := by decide +kernel
theorem dX10_takeOff_22 : decode cX10_takeOff 22 = .ok (.iload_n 3, 1) := by decide +kernel
theorem dX10_takeOff_23 : decode cX10_takeOff 23 = .ok (.aload_n 0, 1) := by decide +kernel
theorem dX10_takeOff_24 : decode cX10_takeOff 24 = .ok (.getfield 53, 3) := by decide +kernel
theorem dX10_takeOff_27 : decode cX10_takeOff 27 = .ok (.iload_n 3, 1) := by decide +kernel
theorem dX10_takeOff_28 : decode cX10_takeOff 28 = .ok (.iconst 1, 1) := by decide +kernel
theorem dX10_takeOff_29 : decode cX10_takeOff 29 = .ok (.iadd, 1) := by decide +kernel
theorem dX10_takeOff_30 : decode cX10_takeOff 30 = .ok (.iaload, 1) := by decide +kernel
theorem dX10_takeOff_31 : decode cX10_takeOff 31 = .ok (.iastore, 1) := by decide +kernel
theorem dX10_takeOff_32 : decode cX10_takeOff 32 = .ok (.iinc 3 1, 3) := by decide +kernel
theorem dX10_takeOff_35 : decode cX10_takeOff 35 = .ok (.goto (-27), 3) := by decide +kernel
theorem dX10_takeOff_38 : decode cX10_takeOff 38 = .ok (.aload_n 0, 1) := by decide +kernel
theorem dX10_takeOff_39 : decode cX10_takeOff 39 = .ok (.dup, 1) := by decide +kernel
theorem dX10_takeOff_40 : decode cX10_takeOff 40 = .ok (.getfield 160, 3) := by decide +kernel
theorem dX10_takeOff_43 : decode cX10_takeOff 43 = .ok (.iconst 1, 1) := by decide +kernel
theorem dX10_takeOff_44 : decode cX10_takeOff 44 = .ok (.isub, 1) := by decide +kernel
theorem dX10_takeOff_45 : decode cX10_takeOff 45 = .ok (.putfield 160, 3) := by decide +kernel
theorem dX10_takeOff_48 : decode cX10_takeOff 48 = .ok (.return_, 1) := by decide +kernel
theorem dX10_putAt_0 : decode cX10_putAt 0 = .ok (.aload_n 0, 1) := by decide +kernel
theorem dX10_putAt_1 : decode cX10_putAt 1 = .ok (.getfield 160, 3) := by decide +kernel
theorem dX10_putAt_4 : decode cX10_putAt 4 = .ok (.istore_n 3, 1) := by decide +kernel
theorem dX10_putAt_5 : decode cX10_putAt 5 = .ok (.iload_n 3, 1) := by decide +kernel
theorem dX10_putAt_6 : decode cX10_putAt 6 = .ok (.iload_n 2, 1) := by decide +kernel
theorem dX10_putAt_7 : decode cX10_putAt 7 = .ok (.if_icmp .le 23, 3) := by decide +kernel
theorem dX10_putAt_10 : decode cX10_putAt 10 = .ok (.aload_n 0, 1) := by decide +kernel
theorem dX10_putAt_11 : decode cX10_putAt 11 = .ok (.getfield 53, 3) := by decide +kernel
theorem dX10_putAt_14 : decode cX10_putAt 14 = .ok (.iload_n 3, 1) := by decide +kernel
theorem dX10_putAt_15 : decode cX10_putAt 15 = .ok (.aload_n 0, 1) := by decide +kernel
theorem dX10_putAt_16 : decode cX10_putAt 16 = .ok (.getfield 53, 3) := by decide +kernel
theorem dX10_putAt_19 : decode cX10_putAt 19 = .ok (.iload_n 3, 1) := by decide +kernel
theorem dX10_putAt_20 : decode cX10_putAt 20 = .ok (.iconst 1, 1) := by decide +kernel
theorem dX10_putAt_21 : decode cX10_putAt 21 = .ok (.isub, 1) := by decide +kernel
theorem dX10_putAt_22 : decode cX10_putAt 22 = .ok (.iaload, 1) := by decide +kernel
theorem dX10_putAt_23 : decode cX10_putAt 23 = .ok (.iastore, 1) := by decide +kernel
theorem dX10_putAt_24 : decode cX10_putAt 24 = .ok (.iinc 3 (-1), 3) := by decide +kernel
theorem dX10_putAt_27 : decode cX10_putAt 27 = .ok (.goto (-22), 3) := by decide +kernel
theorem dX10_putAt_30 : decode cX10_putAt 30 = .ok (.aload_n 0, 1) := by decide +kernel
theorem dX10_putAt_31 : decode cX10_putAt 31 = .ok (.getfield 53, 3) := by decide +kernel
theorem dX10_putAt_34 : decode cX10_putAt 34 = .ok (.iload_n 2, 1) := by decide +kernel
theorem dX10_putAt_35 : decode cX10_putAt 35 = .ok (.iload_n 1, 1) := by decide +kernel
theorem dX10_putAt_36 : decode cX10_putAt 36 = .ok (.iastore, 1) := by decide +kernel
theorem dX10_putAt_37 : decode cX10_putAt 37 = .ok (.aload_n 0, 1) := by decide +kernel
theorem dX10_putAt_38 : decode cX10_putAt 38 = .ok (.dup, 1) := by decide +kernel
theorem dX10_putAt_39 : decode cX10_putAt 39 = .ok (.getfield 160, 3) := by decide +kernel
theorem dX10_putAt_42 : decode cX10_putAt 42 = .ok (.iconst 1, 1) := by decide +kernel
theorem dX10_putAt_43 : decode cX10_putAt 43 = .ok (.iadd, 1) := by decide +kernel
theorem dX10_putAt_44 : decode cX10_putAt 44 = .ok (.putfield 160, 3) := by decide +kernel
theorem dX10_putAt_47 : decode cX10_putAt 47 = .ok (.return_, 1) := by decide +kernel
theorem dX10_copy_0 : decode cX10_copy 0 = .ok (.iconst 0, 1) := by decide +kernel
theorem dX10_copy_1 : decode cX10_copy 1 = .ok (.istore_n 3, 1) := by decide +kernel
theorem dX10_copy_2 : decode cX10_copy 2 = .ok (.iload_n 3, 1) := by decide +kernel
theorem dX10_copy_3 : decode cX10_copy 3 = .ok (.aload_n 0, 1) := by decide +kernel
theorem dX10_copy_4 : decode cX10_copy 4 = .ok (.arraylength, 1) := by decide +kernel
theorem dX10_copy_5 : decode cX10_copy 5 = .ok (.if_icmp .ge 17, 3) := by decide +kernel
theorem dX10_copy_8 : decode cX10_copy 8 = .ok (.aload_n 1, 1) := by decide +kernel
theorem dX10_copy_9 : decode cX10_copy 9 = .ok (.iload_n 2, 1) := by decide +kernel
theorem dX10_copy_10 : decode cX10_copy 10 = .ok (.iload_n 3, 1) := by decide +kernel
theorem dX10_copy_11 : decode cX10_copy 11 = .ok (.iadd, 1) := by decide +kernel
theorem dX10_copy_12 : decode cX10_copy 12 = .ok (.aload_n 0, 1) := by decide +kernel
theorem dX10_copy_13 : decode cX10_copy 13 = .ok (.iload_n 3, 1) := by decide +kernel
theorem dX10_copy_14 : decode cX10_copy 14 = .ok (.iaload, 1) := by decide +kernel
theorem dX10_copy_15 : decode cX10_copy 15 = .ok (.iastore, 1) := by decide +kernel
theorem dX10_copy_16 : decode cX10_copy 16 = .ok (.iinc 3 1, 3) := by decide +kernel
theorem dX10_copy_19 : decode cX10_copy 19 = .ok (.goto (-17), 3) := by decide +kernel
theorem dX10_copy_22 : decode cX10_copy 22 = .ok (.return_, 1) := by decide +kernel
theorem dX10_copyBack_0 : decode cX10_copyBack 0 = .ok (.iconst 0, 1) := by decide +kernel
theorem dX10_copyBack_1 : decode cX10_copyBack 1 = .ok (.istore_n 3, 1) := by decide +kernel
theorem dX10_copyBack_2 : decode cX10_copyBack 2 = .ok (.iload_n 3, 1) := by decide +kernel
theorem dX10_copyBack_3 : decode cX10_copyBack 3 = .ok (.aload_n 2, 1) := by decide +kernel
theorem dX10_copyBack_4 : decode cX10_copyBack 4 = .ok (.arraylength, 1) := by decide +kernel
theorem dX10_copyBack_5 : decode cX10_copyBack 5 = .ok (.if_icmp .ge 17, 3) := by decide +kernel
theorem dX10_copyBack_8 : decode cX10_copyBack 8 = .ok (.aload_n 2, 1) := by decide +kernel
theorem dX10_copyBack_9 : decode cX10_copyBack 9 = .ok (.iload_n 3, 1) := by decide +kernel
theorem dX10_copyBack_10 : decode cX10_copyBack 10 = .ok (.aload_n 0, 1) := by decide +kernel
theorem dX10_copyBack_11 : decode cX10_copyBack 11 = .ok (.iload_n 1, 1) := by decide +kernel
theorem dX10_copyBack_12 : decode cX10_copyBack 12 = .ok (.iload_n 3, 1) := by decide +kernel
theorem dX10_copyBack_13 : decode cX10_copyBack 13 = .ok (.iadd, 1) := by decide +kernel
theorem dX10_copyBack_14 : decode cX10_copyBack 14 = .ok (.iaload, 1) := by decide +kernel
theorem dX10_copyBack_15 : decode cX10_copyBack 15 = .ok (.iastore, 1) := by decide +kernel
theorem dX10_copyBack_16 : decode cX10_copyBack 16 = .ok (.iinc 3 1, 3) := by decide +kernel
theorem dX10_copyBack_19 : decode cX10_copyBack 19 = .ok (.goto (-17), 3) := by decide +kernel
theorem dX10_copyBack_22 : decode cX10_copyBack 22 = .ok (.return_, 1) := by decide +kernel
theorem dX10_keep_0 : decode cX10_keep 0 = .ok (.aload_n 0, 1) := by decide +kernel
theorem dX10_keep_1 : decode cX10_keep 1 = .ok (.getfield 26, 3) := by decide +kernel
theorem dX10_keep_4 : decode cX10_keep 4 = .ok (.aload_n 0, 1) := by decide +kernel
theorem dX10_keep_5 : decode cX10_keep 5 = .ok (.getfield 141, 3) := by decide +kernel
theorem dX10_keep_8 : decode cX10_keep 8 = .ok (.iconst 0, 1) := by decide +kernel
theorem dX10_keep_9 : decode cX10_keep 9 = .ok (.invokestatic 185, 3) := by decide +kernel
theorem dX10_keep_12 : decode cX10_keep 12 = .ok (.aload_n 0, 1) := by decide +kernel
theorem dX10_keep_13 : decode cX10_keep 13 = .ok (.getfield 29, 3) := by decide +kernel
theorem dX10_keep_16 : decode cX10_keep 16 = .ok (.aload_n 0, 1) := by decide +kernel
theorem dX10_keep_17 : decode cX10_keep 17 = .ok (.getfield 141, 3) := by decide +kernel
theorem dX10_keep_20 : decode cX10_keep 20 = .ok (.bipush 60, 2) := by decide +kernel
theorem dX10_keep_22 : decode cX10_keep 22 = .ok (.invokestatic 185, 3) := by decide +kernel
theorem dX10_keep_25 : decode cX10_keep 25 = .ok (.aload_n 0, 1) := by decide +kernel
theorem dX10_keep_26 : decode cX10_keep 26 = .ok (.getfield 32, 3) := by decide +kernel
theorem dX10_keep_29 : decode cX10_keep 29 = .ok (.aload_n 0, 1) := by decide +kernel
theorem dX10_keep_30 : decode cX10_keep 30 = .ok (.getfield 141, 3) := by decide +kernel
theorem dX10_keep_33 : decode cX10_keep 33 = .ok (.bipush 120, 2) := by decide +kernel
theorem dX10_keep_35 : decode cX10_keep 35 = .ok (.invokestatic 185, 3) := by decide +kernel
theorem dX10_keep_38 : decode cX10_keep 38 = .ok (.aload_n 0, 1) := by decide +kernel
theorem dX10_keep_39 : decode cX10_keep 39 = .ok (.getfield 35, 3) := by decide +kernel
theorem dX10_keep_42 : decode cX10_keep 42 = .ok (.aload_n 0, 1) := by decide +kernel
theorem dX10_keep_43 : decode cX10_keep 43 = .ok (.getfield 141, 3) := by decide +kernel
theorem dX10_keep_46 : decode cX10_keep 46 = .ok (.sipush 180, 3) := by decide +kernel
theorem dX10_keep_49 : decode cX10_keep 49 = .ok (.invokestatic 185, 3) := by decide +kernel
theorem dX10_keep_52 : decode cX10_keep 52 = .ok (.aload_n 0, 1) := by decide +kernel
theorem dX10_keep_53 : decode cX10_keep 53 = .ok (.getfield 38, 3) := by decide +kernel
theorem dX10_keep_56 : decode cX10_keep 56 = .ok (.aload_n 0, 1) := by decide +kernel
theorem dX10_keep_57 : decode cX10_keep 57 = .ok (.getfield 141, 3) := by decide +kernel
theorem dX10_keep_60 : decode cX10_keep 60 = .ok (.sipush 240, 3) := by decide +kernel
theorem dX10_keep_63 : decode cX10_keep 63 = .ok (.invokestatic 185, 3) := by decide +kernel
theorem dX10_keep_66 : decode cX10_keep 66 = .ok (.aload_n 0, 1) := by decide +kernel
theorem dX10_keep_67 : decode cX10_keep 67 = .ok (.getfield 41, 3) := by decide +kernel
theorem dX10_keep_70 : decode cX10_keep 70 = .ok (.aload_n 0, 1) := by decide +kernel
theorem dX10_keep_71 : decode cX10_keep 71 = .ok (.getfield 141, 3) := by decide +kernel
theorem dX10_keep_74 : decode cX10_keep 74 = .ok (.sipush 300, 3) := by decide +kernel
theorem dX10_keep_77 : decode cX10_keep 77 = .ok (.invokestatic 185, 3) := by decide +kernel
theorem dX10_keep_80 : decode cX10_keep 80 = .ok (.aload_n 0, 1) := by decide +kernel
theorem dX10_keep_81 : decode cX10_keep 81 = .ok (.getfield 44, 3) := by decide +kernel
theorem dX10_keep_84 : decode cX10_keep 84 = .ok (.aload_n 0, 1) := by decide +kernel
theorem dX10_keep_85 : decode cX10_keep 85 = .ok (.getfield 141, 3) := by decide +kernel
theorem dX10_keep_88 : decode cX10_keep 88 = .ok (.sipush 360, 3) := by decide +kernel
theorem dX10_keep_91 : decode cX10_keep 91 = .ok (.invokestatic 185, 3) := by decide +kernel
theorem dX10_keep_94 : decode cX10_keep 94 = .ok (.aload_n 0, 1) := by decide +kernel
theorem dX10_keep_95 : decode cX10_keep 95 = .ok (.getfield 47, 3) := by decide +kernel
theorem dX10_keep_98 : decode cX10_keep 98 = .ok (.aload_n 0, 1) := by decide +kernel
theorem dX10_keep_99 : decode cX10_keep 99 = .ok (.getfield 141, 3) := by decide +kernel
theorem dX10_keep_102 : decode cX10_keep 102 = .ok (.sipush 420, 3) := by decide +kernel
theorem dX10_keep_105 : decode cX10_keep 105 = .ok (.invokestatic 185, 3) := by decide +kernel
theorem dX10_keep_108 : decode cX10_keep 108 = .ok (.aload_n 0, 1) := by decide +kernel
theorem dX10_keep_109 : decode cX10_keep 109 = .ok (.getfield 53, 3) := by decide +kernel
theorem dX10_keep_112 : decode cX10_keep 112 = .ok (.aload_n 0, 1) := by decide +kernel
theorem dX10_keep_113 : decode cX10_keep 113 = .ok (.getfield 141, 3) := by decide +kernel
theorem dX10_keep_116 : decode cX10_keep 116 = .ok (.sipush 480, 3) := by decide +kernel
theorem dX10_keep_119 : decode cX10_keep 119 = .ok (.invokestatic 185, 3) := by decide +kernel
theorem dX10_keep_122 : decode cX10_keep 122 = .ok (.aload_n 0, 1) := by decide +kernel
theorem dX10_keep_123 : decode cX10_keep 123 = .ok (.getfield 50, 3) := by decide +kernel
theorem dX10_keep_126 : decode cX10_keep 126 = .ok (.aload_n 0, 1) := by decide +kernel
theorem dX10_keep_127 : decode cX10_keep 127 = .ok (.getfield 141, 3) := by decide +kernel
theorem dX10_keep_130 : decode cX10_keep 130 = .ok (.sipush 540, 3) := by decide +kernel
theorem dX10_keep_133 : decode cX10_keep 133 = .ok (.invokestatic 185, 3) := by decide +kernel
theorem dX10_keep_136 : decode cX10_keep 136 = .ok (.aload_n 0, 1) := by decide +kernel
theorem dX10_keep_137 : decode cX10_keep 137 = .ok (.aload_n 0, 1) := by decide +kernel
theorem dX10_keep_138 : decode cX10_keep 138 = .ok (.getfield 160, 3) := by decide +kernel
theorem dX10_keep_141 : decode cX10_keep 141 = .ok (.putfield 189, 3) := by decide +kernel
theorem dX10_keep_144 : decode cX10_keep 144 = .ok (.aload_n 0, 1) := by decide +kernel
theorem dX10_keep_145 : decode cX10_keep 145 = .ok (.getfield 74, 3) := by decide +kernel
theorem dX10_keep_148 : decode cX10_keep 148 = .ok (.aload_n 0, 1) := by decide +kernel
theorem dX10_keep_149 : decode cX10_keep 149 = .ok (.getfield 144, 3) := by decide +kernel
theorem dX10_keep_152 : decode cX10_keep 152 = .ok (.iconst 0, 1) := by decide +kernel
theorem dX10_keep_153 : decode cX10_keep 153 = .ok (.invokestatic 185, 3) := by decide +kernel
theorem dX10_keep_156 : decode cX10_keep 156 = .ok (.aload_n 0, 1) := by decide +kernel
theorem dX10_keep_157 : decode cX10_keep 157 = .ok (.getfield 77, 3) := by decide +kernel
theorem dX10_keep_160 : decode cX10_keep 160 = .ok (.aload_n 0, 1) := by decide +kernel
theorem dX10_keep_161 : decode cX10_keep 161 = .ok (.getfield 144, 3) := by decide +kernel
theorem dX10_keep_164 : decode cX10_keep 164 = .ok (.sipush 400, 3) := by decide +kernel
theorem dX10_keep_167 : decode cX10_keep 167 = .ok (.invokestatic 185, 3) := by decide +kernel
theorem dX10_keep_170 : decode cX10_keep 170 = .ok (.aload_n 0, 1) := by decide +kernel
theorem dX10_keep_171 : decode cX10_keep 171 = .ok (.getfield 80, 3) := by decide +kernel
theorem dX10_keep_174 : decode cX10_keep 174 = .ok (.aload_n 0, 1) := by decide +kernel
theorem dX10_keep_175 : decode cX10_keep 175 = .ok (.getfield 144, 3) := by decide +kernel
theorem dX10_keep_178 : decode cX10_keep 178 = .ok (.sipush 800, 3) := by decide +kernel
theorem dX10_keep_181 : decode cX10_keep 181 = .ok (.invokestatic 185, 3) := by decide +kernel
theorem dX10_keep_184 : decode cX10_keep 184 = .ok (.aload_n 0, 1) := by decide +kernel
theorem dX10_keep_185 : decode cX10_keep 185 = .ok (.getfield 83, 3) := by decide +kernel
theorem dX10_keep_188 : decode cX10_keep 188 = .ok (.aload_n 0, 1) := by decide +kernel
theorem dX10_keep_189 : decode cX10_keep 189 = .ok (.getfield 144, 3) := by decide +kernel
theorem dX10_keep_192 : decode cX10_keep 192 = .ok (.sipush 1200, 3) := by decide +kernel
theorem dX10_keep_195 : decode cX10_keep 195 = .ok (.invokestatic 185, 3) := by decide +kernel
theorem dX10_keep_198 : decode cX10_keep 198 = .ok (.aload_n 0, 1) := by decide +kernel
theorem dX10_keep_199 : decode cX10_keep 199 = .ok (.getfield 86, 3) := by decide +kernel
theorem dX10_keep_202 : decode cX10_keep 202 = .ok (.aload_n 0, 1) := by decide +kernel
theorem dX10_keep_203 : decode cX10_keep 203 = .ok (.getfield 144, 3) := by decide +kernel
theorem dX10_keep_206 : decode cX10_keep 206 = .ok (.sipush 1600, 3) := by decide +kernel
theorem dX10_keep_209 : decode cX10_keep 209 = .ok (.invokestatic 185, 3) := by decide +kernel
theorem dX10_keep_212 : decode cX10_keep 212 = .ok (.aload_n 0, 1) := by decide +kernel
theorem dX10_keep_213 : decode cX10_keep 213 = .ok (.getfield 89, 3) := by decide +kernel
theorem dX10_keep_216 : decode cX10_keep 216 = .ok (.aload_n 0, 1) := by decide +kernel
theorem dX10_keep_217 : decode cX10_keep 217 = .ok (.getfield 144, 3) := by decide +kernel
theorem dX10_keep_220 : decode cX10_keep 220 = .ok (.sipush 2000, 3) := by decide +kernel
theorem dX10_keep_223 : decode cX10_keep 223 = .ok (.invokestatic 185, 3) := by decide +kernel
theorem dX10_keep_226 : decode cX10_keep 226 = .ok (.aload_n 0, 1) := by decide +kernel
theorem dX10_keep_227 : decode cX10_keep 227 = .ok (.getfield 92, 3) := by decide +kernel
theorem dX10_keep_230 : decode cX10_keep 230 = .ok (.aload_n 0, 1) := by decide +kernel
theorem dX10_keep_231 : decode cX10_keep 231 = .ok (.getfield 144, 3) := by decide +kernel
theorem dX10_keep_234 : decode cX10_keep 234 = .ok (.sipush 2400, 3) := by decide +kernel
theorem dX10_keep_237 : decode cX10_keep 237 = .ok (.invokestatic 185, 3) := by decide +kernel
theorem dX10_keep_240 : decode cX10_keep 240 = .ok (.aload_n 0, 1) := by decide +kernel
theorem dX10_keep_241 : decode cX10_keep 241 = .ok (.getfield 95, 3) := by decide +kernel
theorem dX10_keep_244 : decode cX10_keep 244 = .ok (.aload_n 0, 1) := by decide +kernel
theorem dX10_keep_245 : decode cX10_keep 245 = .ok (.getfield 144, 3) := by decide +kernel
theorem dX10_keep_248 : decode cX10_keep 248 = .ok (.sipush 2800, 3) := by decide +kernel
theorem dX10_keep_251 : decode cX10_keep 251 = .ok (.invokestatic 185, 3) := by decide +kernel
theorem dX10_keep_254 : decode cX10_keep 254 = .ok (.return_, 1) := by decide +kernel
theorem dX10_undo_0 : decode cX10_undo 0 = .ok (.aload_n 0, 1) := by decide +kernel
theorem dX10_undo_1 : decode cX10_undo 1 = .ok (.iconst 0, 1) := by decide +kernel
theorem dX10_undo_2 : decode cX10_undo 2 = .ok (.putfield 147, 3) := by decide +kernel
theorem dX10_undo_5 : decode cX10_undo 5 = .ok (.aload_n 0, 1) := by decide +kernel
theorem dX10_undo_6 : decode cX10_undo 6 = .ok (.getfield 163, 3) := by decide +kernel
theorem dX10_undo_9 : decode cX10_undo 9 = .ok (.ifCond .ne 5, 3) := by decide +kernel
theorem dX10_undo_12 : decode cX10_undo 12 = .ok (.iconst 0, 1) := by decide +kernel
theorem dX10_undo_13 : decode cX10_undo 13 = .ok (.ireturn, 1) := by decide +kernel
theorem dX10_undo_14 : decode cX10_undo 14 = .ok (.aload_n 0, 1) := by decide +kernel
theorem dX10_undo_15 : decode cX10_undo 15 = .ok (.getfield 141, 3) := by decide +kernel
theorem dX10_undo_18 : decode cX10_undo 18 = .ok (.iconst 0, 1) := by decide +kernel
theorem dX10_undo_19 : decode cX10_undo 19 = .ok (.aload_n 0, 1) := by decide +kernel
theorem dX10_undo_20 : decode cX10_undo 20 = .ok (.getfield 26, 3) := by decide +kernel
theorem dX10_undo_23 : decode cX10_undo 23 = .ok (.invokestatic 192, 3) := by decide +kernel
theorem dX10_undo_26 : decode cX10_undo 26 = .ok (.aload_n 0, 1) := by decide +kernel
theorem dX10_undo_27 : decode cX10_undo 27 = .ok (.getfield 141, 3) := by decide +kernel
theorem dX10_undo_30 : decode cX10_undo 30 = .ok (.bipush 60, 2) := by decide +kernel
theorem dX10_undo_32 : decode cX10_undo 32 = .ok (.aload_n 0, 1) := by decide +kernel
theorem dX10_undo_33 : decode cX10_undo 33 = .ok (.getfield 29, 3) := by decide +kernel
theorem dX10_undo_36 : decode cX10_undo 36 = .ok (.invokestatic 192, 3) := by decide +kernel
theorem dX10_undo_39 : decode cX10_undo 39 = .ok (.aload_n 0, 1) := by decide +kernel
theorem dX10_undo_40 : decode cX10_undo 40 = .ok (.getfield 141, 3) := by decide +kernel
theorem dX10_undo_43 : decode cX10_undo 43 = .ok (.bipush 120, 2) := by decide +kernel
theorem dX10_undo_45 : decode cX10_undo 45 = .ok (.aload_n 0, 1) := by decide +kernel
theorem dX10_undo_46 : decode cX10_undo 46 = .ok (.getfield 32, 3) := by decide +kernel
theorem dX10_undo_49 : decode cX10_undo 49 = .ok (.invokestatic 192, 3) := by decide +kernel
theorem dX10_undo_52 : decode cX10_undo 52 = .ok (.aload_n 0, 1) := by decide +kernel
theorem dX10_undo_53 : decode cX10_undo 53 = .ok (.getfield 141, 3) := by decide +kernel
theorem dX10_undo_56 : decode cX10_undo 56 = .ok (.sipush 180, 3) := by decide +kernel
theorem dX10_undo_59 : decode cX10_undo 59 = .ok (.aload_n 0, 1) := by decide +kernel
theorem dX10_undo_60 : decode cX10_undo 60 = .ok (.getfield 35, 3) := by decide +kernel
theorem dX10_undo_63 : decode cX10_undo 63 = .ok (.invokestatic 192, 3) := by decide +kernel
theorem dX10_undo_66 : decode cX10_undo 66 = .ok (.aload_n 0, 1) := by decide +kernel
theorem dX10_undo_67 : decode cX10_undo 67 = .ok (.getfield 141, 3) := by decide +kernel
theorem dX10_undo_70 : decode cX10_undo 70 = .ok (.sipush 240, 3) := by decide +kernel
theorem dX10_undo_73 : decode cX10_undo 73 = .ok (.aload_n 0, 1) := by decide +kernel
theorem dX10_undo_74 : decode cX10_undo 74 = .ok (.getfield 38, 3) := by decide +kernel
theorem dX10_undo_77 : decode cX10_undo 77 = .ok (.invokestatic 192, 3) := by decide +kernel
theorem dX10_undo_80 : decode cX10_undo 80 = .ok (.aload_n 0, 1) := by decide +kernel
theorem dX10_undo_81 : decode cX10_undo 81 = .ok (.getfield 141, 3) := by decide +kernel
theorem dX10_undo_84 : decode cX10_undo 84 = .ok (.sipush 300, 3) := by decide +kernel
theorem dX10_undo_87 : decode cX10_undo 87 = .ok (.aload_n 0, 1) := by decide +kernel
theorem dX10_undo_88 : decode cX10_undo 88 = .ok (.getfield 41, 3) := by decide +kernel
theorem dX10_undo_91 : decode cX10_undo 91 = .ok (.invokestatic 192, 3) := by decide +kernel
theorem dX10_undo_94 : decode cX10_undo 94 = .ok (.aload_n 0, 1) := by decide +kernel
theorem dX10_undo_95 : decode cX10_undo 95 = .ok (.getfield 141, 3) := by decide +kernel
theorem dX10_undo_98 : decode cX10_undo 98 = .ok (.sipush 360, 3) := by decide +kernel
theorem dX10_undo_101 : decode cX10_undo 101 = .ok (.aload_n 0, 1) := by decide +kernel
theorem dX10_undo_102 : decode cX10_undo 102 = .ok (.getfield 44, 3) := by decide +kernel
theorem dX10_undo_105 : decode cX10_undo 105 = .ok (.invokestatic 192, 3) := by decide +kernel
theorem dX10_undo_108 : decode cX10_undo 108 = .ok (.aload_n 0, 1) := by decide +kernel
theorem dX10_undo_109 : decode cX10_undo 109 = .ok (.getfield 141, 3) := by decide +kernel
theorem dX10_undo_112 : decode cX10_undo 112 = .ok (.sipush 420, 3) := by decide +kernel
theorem dX10_undo_115 : decode cX10_undo 115 = .ok (.aload_n 0, 1) := by decide +kernel
theorem dX10_undo_116 : decode cX10_undo 116 = .ok (.getfield 47, 3) := by decide +kernel
theorem dX10_undo_119 : decode cX10_undo 119 = .ok (.invokestatic 192, 3) := by decide +kernel
theorem dX10_undo_122 : decode cX10_undo 122 = .ok (.aload_n 0, 1) := by decide +kernel
theorem dX10_undo_123 : decode cX10_undo 123 = .ok (.getfield 141, 3) := by decide +kernel
theorem dX10_undo_126 : decode cX10_undo 126 = .ok (.sipush 480, 3) := by decide +kernel
theorem dX10_undo_129 : decode cX10_undo 129 = .ok (.aload_n 0, 1) := by decide +kernel
theorem dX10_undo_130 : decode cX10_undo 130 = .ok (.getfield 53, 3) := by decide +kernel
theorem dX10_undo_133 : decode cX10_undo 133 = .ok (.invokestatic 192, 3) := by decide +kernel
theorem dX10_undo_136 : decode cX10_undo 136 = .ok (.aload_n 0, 1) := by decide +kernel
theorem dX10_undo_137 : decode cX10_undo 137 = .ok (.getfield 141, 3) := by decide +kernel
theorem dX10_undo_140 : decode cX10_undo 140 = .ok (.sipush 540, 3) := by decide +kernel
theorem dX10_undo_143 : decode cX10_undo 143 = .ok (.aload_n 0, 1) := by decide +kernel
theorem dX10_undo_144 : decode cX10_undo 144 = .ok (.getfield 50, 3) := by decide +kernel
theorem dX10_undo_147 : decode cX10_undo 147 = .ok (.invokestatic 192, 3) := by decide +kernel
theorem dX10_undo_150 : decode cX10_undo 150 = .ok (.aload_n 0, 1) := by decide +kernel
theorem dX10_undo_151 : decode cX10_undo 151 = .ok (.aload_n 0, 1) := by decide +kernel
theorem dX10_undo_152 : decode cX10_undo 152 = .ok (.getfield 189, 3) := by decide +kernel
theorem dX10_undo_155 : decode cX10_undo 155 = .ok (.putfield 160, 3) := by decide +kernel
theorem dX10_undo_158 : decode cX10_undo 158 = .ok (.aload_n 0, 1) := by decide +kernel
theorem dX10_undo_159 : decode cX10_undo 159 = .ok (.getfield 144, 3) := by decide +kernel
theorem dX10_undo_162 : decode cX10_undo 162 = .ok (.iconst 0, 1) := by decide +kernel
theorem dX10_undo_163 : decode cX10_undo 163 = .ok (.aload_n 0, 1) := by decide +kernel
theorem dX10_undo_164 : decode cX10_undo 164 = .ok (.getfield 74, 3) := by decide +kernel
theorem dX10_undo_167 : decode cX10_undo 167 = .ok (.invokestatic 192, 3) := by decide +kernel
theorem dX10_undo_170 : decode cX10_undo 170 = .ok (.aload_n 0, 1) := by decide +kernel
theorem dX10_undo_171 : decode cX10_undo 171 = .ok (.getfield 144, 3) := by decide +kernel
theorem dX10_undo_174 : decode cX10_undo 174 = .ok (.sipush 400, 3) := by decide +kernel
theorem dX10_undo_177 : decode cX10_undo 177 = .ok (.aload_n 0, 1) := by decide +kernel
theorem dX10_undo_178 : decode cX10_undo 178 = .ok (.getfield 77, 3) := by decide +kernel
theorem dX10_undo_181 : decode cX10_undo 181 = .ok (.invokestatic 192, 3) := by decide +kernel
theorem dX10_undo_184 : decode cX10_undo 184 = .ok (.aload_n 0, 1) := by decide +kernel
theorem dX10_undo_185 : decode cX10_undo 185 = .ok (.getfield 144, 3) := by decide +kernel
theorem dX10_undo_188 : decode cX10_undo 188 = .ok (.sipush 800, 3) := by decide +kernel
theorem dX10_undo_191 : decode cX10_undo 191 = .ok (.aload_n 0, 1) := by decide +kernel
theorem dX10_undo_192 : decode cX10_undo 192 = .ok (.getfield 80, 3) := by decide +kernel
theorem dX10_undo_195 : decode cX10_undo 195 = .ok (.invokestatic 192, 3) := by decide +kernel
theorem dX10_undo_198 : decode cX10_undo 198 = .ok (.aload_n 0, 1) := by decide +kernel
theorem dX10_undo_199 : decode cX10_undo 199 = .ok (.getfield 144, 3) := by decide +kernel
theorem dX10_undo_202 : decode cX10_undo 202 = .ok (.sipush 1200, 3) := by decide +kernel
theorem dX10_undo_205 : decode cX10_undo 205 = .ok (.aload_n 0, 1) := by decide +kernel
theorem dX10_undo_206 : decode cX10_undo 206 = .ok (.getfield 83, 3) := by decide +kernel
theorem dX10_undo_209 : decode cX10_undo 209 = .ok (.invokestatic 192, 3) := by decide +kernel
theorem dX10_undo_212 : decode cX10_undo 212 = .ok (.aload_n 0, 1) := by decide +kernel
theorem dX10_undo_213 : decode cX10_undo 213 = .ok (.getfield 144, 3) := by decide +kernel
theorem dX10_undo_216 : decode cX10_undo 216 = .ok (.sipush 1600, 3) := by decide +kernel
theorem dX10_undo_219 : decode cX10_undo 219 = .ok (.aload_n 0, 1) := by decide +kernel
theorem dX10_undo_220 : decode cX10_undo 220 = .ok (.getfield 86, 3) := by decide +kernel
theorem dX10_undo_223 : decode cX10_undo 223 = .ok (.invokestatic 192, 3) := by decide +kernel
theorem dX10_undo_226 : decode cX10_undo 226 = .ok (.aload_n 0, 1) := by decide +kernel
theorem dX10_undo_227 : decode cX10_undo 227 = .ok (.getfield 144, 3) := by decide +kernel
theorem dX10_undo_230 : decode cX10_undo 230 = .ok (.sipush 2000, 3) := by decide +kernel
theorem dX10_undo_233 : decode cX10_undo 233 = .ok (.aload_n 0, 1) := by decide +kernel
theorem dX10_undo_234 : decode cX10_undo 234 = .ok (.getfield 89, 3) := by decide +kernel
theorem dX10_undo_237 : decode cX10_undo 237 = .ok (.invokestatic 192, 3) := by decide +kernel
theorem dX10_undo_240 : decode cX10_undo 240 = .ok (.aload_n 0, 1) := by decide +kernel
theorem dX10_undo_241 : decode cX10_undo 241 = .ok (.getfield 144, 3) := by decide +kernel
theorem dX10_undo_244 : decode cX10_undo 244 = .ok (.sipush 2400, 3) := by decide +kernel
theorem dX10_undo_247 : decode cX10_undo 247 = .ok (.aload_n 0, 1) := by decide +kernel
theorem dX10_undo_248 : decode cX10_undo 248 = .ok (.getfield 92, 3) := by decide +kernel
theorem dX10_undo_251 : decode cX10_undo 251 = .ok (.invokestatic 192, 3) := by decide +kernel
theorem dX10_undo_254 : decode cX10_undo 254 = .ok (.aload_n 0, 1) := by decide +kernel
theorem dX10_undo_255 : decode cX10_undo 255 = .ok (.getfield 144, 3) := by decide +kernel
theorem dX10_undo_258 : decode cX10_undo 258 = .ok (.sipush 2800, 3) := by decide +kernel
theorem dX10_undo_261 : decode cX10_undo 261 = .ok (.aload_n 0, 1) := by decide +kernel
theorem dX10_undo_262 : decode cX10_undo 262 = .ok (.getfield 95, 3) := by decide +kernel
theorem dX10_undo_265 : decode cX10_undo 265 = .ok (.invokestatic 192, 3) := by decide +kernel
theorem dX10_undo_268 : decode cX10_undo 268 = .ok (.aload_n 0, 1) := by decide +kernel
theorem dX10_undo_269 : decode cX10_undo 269 = .ok (.dup, 1) := by decide +kernel
theorem dX10_undo_270 : decode cX10_undo 270 = .ok (.getfield 196, 3) := by decide +kernel
theorem dX10_undo_273 : decode cX10_undo 273 = .ok (.iconst 1, 1) := by decide +kernel
theorem dX10_undo_274 : decode cX10_undo 274 = .ok (.isub, 1) := by decide +kernel
theorem dX10_undo_275 : decode cX10_undo 275 = .ok (.putfield 196, 3) := by decide +kernel
theorem dX10_undo_278 : decode cX10_undo 278 = .ok (.aload_n 0, 1) := by decide +kernel
theorem dX10_undo_279 : decode cX10_undo 279 = .ok (.iconst 0, 1) := by decide +kernel
theorem dX10_undo_280 : decode cX10_undo 280 = .ok (.putfield 199, 3) := by decide +kernel
theorem dX10_undo_283 : decode cX10_undo 283 = .ok (.aload_n 0, 1) := by decide +kernel
theorem dX10_undo_284 : decode cX10_undo 284 = .ok (.iconst 0, 1) := by decide +kernel
theorem dX10_undo_285 : decode cX10_undo 285 = .ok (.putfield 163, 3) := by decide +kernel
theorem dX10_undo_288 : decode cX10_undo 288 = .ok (.iconst 1, 1) := by decide +kernel
theorem dX10_undo_289 : decode cX10_undo 289 = .ok (.ireturn, 1) := by decide +kernel
theorem dX10_hour_0 : decode cX10_hour 0 = .ok (.aload_n 0, 1) := by decide +kernel
theorem dX10_hour_1 : decode cX10_hour 1 = .ok (.iconst 0, 1) := by decide +kernel
theorem dX10_hour_2 : decode cX10_hour 2 = .ok (.putfield 147, 3) := by decide +kernel
theorem dX10_hour_5 : decode cX10_hour 5 = .ok (.aload_n 0, 1) := by decide +kernel
theorem dX10_hour_6 : decode cX10_hour 6 = .ok (.getfield 196, 3) := by decide +kernel
theorem dX10_hour_9 : decode cX10_hour 9 = .ok (.sipush 9599, 3) := by decide +kernel
theorem dX10_hour_12 : decode cX10_hour 12 = .ok (.if_icmp .ne 5, 3) := by decide +kernel
theorem dX10_hour_15 : decode cX10_hour 15 = .ok (.iconst (-1), 1) := by decide +kernel
theorem dX10_hour_16 : decode cX10_hour 16 = .ok (.ireturn, 1) := by decide +kernel
theorem dX10_hour_17 : decode cX10_hour 17 = .ok (.aload_n 0, 1) := by decide +kernel
theorem dX10_hour_18 : decode cX10_hour 18 = .ok (.invokevirtual 202, 3) := by decide +kernel
theorem dX10_hour_21 : decode cX10_hour 21 = .ok (.aload_n 0, 1) := by decide +kernel
theorem dX10_hour_22 : decode cX10_hour 22 = .ok (.iconst 0, 1) := by decide +kernel
theorem dX10_hour_23 : decode cX10_hour 23 = .ok (.putfield 199, 3) := by decide +kernel
theorem dX10_hour_26 : decode cX10_hour 26 = .ok (.iconst 0, 1) := by decide +kernel
theorem dX10_hour_27 : decode cX10_hour 27 = .ok (.istore_n 1, 1) := by decide +kernel
theorem dX10_hour_28 : decode cX10_hour 28 = .ok (.iload_n 1, 1) := by decide +kernel
theorem dX10_hour_29 : decode cX10_hour 29 = .ok (.aload_n 0, 1) := by decide +kernel
theorem dX10_hour_30 : decode cX10_hour 30 = .ok (.getfield 150, 3) := by decide +kernel
theorem dX10_hour_33 : decode cX10_hour 33 = .ok (.if_icmp .ge 20, 3) := by decide +kernel
theorem dX10_hour_36 : decode cX10_hour 36 = .ok (.aload_n 0, 1) := by decide +kernel
theorem dX10_hour_37 : decode cX10_hour 37 = .ok (.getfield 50, 3) := by decide +kernel
theorem dX10_hour_40 : decode cX10_hour 40 = .ok (.iload_n 1, 1) := by decide +kernel
theorem dX10_hour_41 : decode cX10_hour 41 = .ok (.aload_n 0, 1) := by decide +kernel
theorem dX10_hour_42 : decode cX10_hour 42 = .ok (.iload_n 1, 1) := by decide +kernel
theorem dX10_hour_43 : decode cX10_hour 43 = .ok (.invokevirtual 182, 3) := by decide +kernel
theorem dX10_hour_46 : decode cX10_hour 46 = .ok (.iastore, 1) := by decide +kernel
theorem dX10_hour_47 : decode cX10_hour 47 = .ok (.iinc 1 1, 3) := by decide +kernel
theorem dX10_hour_50 : decode cX10_hour 50 = .ok (.goto (-22), 3) := by decide +kernel
theorem dX10_hour_53 : decode cX10_hour 53 = .ok (.aload_n 0, 1) := by decide +kernel
theorem dX10_hour_54 : decode cX10_hour 54 = .ok (.getfield 196, 3) := by decide +kernel
theorem dX10_hour_57 : decode cX10_hour 57 = .ok (.iconst 1, 1) := by decide +kernel
theorem dX10_hour_58 : decode cX10_hour 58 = .ok (.iadd, 1) := by decide +kernel
theorem dX10_hour_59 : decode cX10_hour 59 = .ok (.istore_n 1, 1) := by decide +kernel
theorem dX10_hour_60 : decode cX10_hour 60 = .ok (.aload_n 0, 1) := by decide +kernel
theorem dX10_hour_61 : decode cX10_hour 61 = .ok (.aload_n 0, 1) := by decide +kernel
theorem dX10_hour_62 : decode cX10_hour 62 = .ok (.aload_n 0, 1) := by decide +kernel
theorem dX10_hour_63 : decode cX10_hour 63 = .ok (.getfield 196, 3) := by decide +kernel
theorem dX10_hour_66 : decode cX10_hour 66 = .ok (.invokevirtual 178, 3) := by decide +kernel
theorem dX10_hour_69 : decode cX10_hour 69 = .ok (.putfield 205, 3) := by decide +kernel
theorem dX10_hour_72 : decode cX10_hour 72 = .ok (.iconst 0, 1) := by decide +kernel
theorem dX10_hour_73 : decode cX10_hour 73 = .ok (.istore_n 2, 1) := by decide +kernel
theorem dX10_hour_74 : decode cX10_hour 74 = .ok (.aload_n 0, 1) := by decide +kernel
theorem dX10_hour_75 : decode cX10_hour 75 = .ok (.iload_n 1, 1) := by decide +kernel
theorem dX10_hour_76 : decode cX10_hour 76 = .ok (.invokevirtual 208, 3) := by decide +kernel
theorem dX10_hour_79 : decode cX10_hour 79 = .ok (.istore_n 3, 1) := by decide +kernel
theorem dX10_hour_80 : decode cX10_hour 80 = .ok (.iconst 0, 1) := by decide +kernel
theorem dX10_hour_81 : decode cX10_hour 81 = .ok (.istore 4, 2) := by decide +kernel
theorem dX10_hour_83 : decode cX10_hour 83 = .ok (.iload 4, 2) := by decide +kernel
theorem dX10_hour_85 : decode cX10_hour 85 = .ok (.iload_n 3, 1) := by decide +kernel
theorem dX10_hour_86 : decode cX10_hour 86 = .ok (.if_icmp .ge 32, 3) := by decide +kernel
theorem dX10_hour_89 : decode cX10_hour 89 = .ok (.iload_n 2, 1) := by decide +kernel
theorem dX10_hour_90 : decode cX10_hour 90 = .ok (.aload_n 0, 1) := by decide +kernel
theorem dX10_hour_91 : decode cX10_hour 91 = .ok (.aload_n 0, 1) := by decide +kernel
theorem dX10_hour_92 : decode cX10_hour 92 = .ok (.getfield 135, 3) := by decide +kernel
theorem dX10_hour_95 : decode cX10_hour 95 = .ok (.iload 4, 2) := by decide +kernel
theorem dX10_hour_97 : decode cX10_hour 97 = .ok (.iaload, 1) := by decide +kernel
theorem dX10_hour_98 : decode cX10_hour 98 = .ok (.iload_n 1, 1) := by decide +kernel
theorem dX10_hour_99 : decode cX10_hour 99 = .ok (.invokevirtual 211, 3) := by decide +kernel
theorem dX10_hour_102 : decode cX10_hour 102 = .ok (.ifCond .eq 7, 3) := by decide +kernel
theorem dX10_hour_105 : decode cX10_hour 105 = .ok (.iconst 1, 1) := by decide +kernel
theorem dX10_hour_106 : decode cX10_hour 106 = .ok (.goto 4, 3) := by decide +kernel
theorem dX10_hour_109 : decode cX10_hour 109 = .ok (.iconst 0, 1) := by decide +kernel
theorem dX10_hour_110 : decode cX10_hour 110 = .ok (.iadd, 1) := by decide +kernel
theorem dX10_hour_111 : decode cX10_hour 111 = .ok (.istore_n 2, 1) := by decide +kernel
theorem dX10_hour_112 : decode cX10_hour 112 = .ok (.iinc 4 1, 3) := by decide +kernel
theorem dX10_hour_115 : decode cX10_hour 115 = .ok (.goto (-32), 3) := by decide +kernel
theorem dX10_hour_118 : decode cX10_hour 118 = .ok (.aload_n 0, 1) := by decide +kernel
theorem dX10_hour_119 : decode cX10_hour 119 = .ok (.aload_n 0, 1) := by decide +kernel
theorem dX10_hour_120 : decode cX10_hour 120 = .ok (.aload_n 0, 1) := by decide +kernel
theorem dX10_hour_121 : decode cX10_hour 121 = .ok (.getfield 196, 3) := by decide +kernel
theorem dX10_hour_124 : decode cX10_hour 124 = .ok (.invokevirtual 215, 3) := by decide +kernel
theorem dX10_hour_127 : decode cX10_hour 127 = .ok (.invokevirtual 218, 3) := by decide +kernel
theorem dX10_hour_130 : decode cX10_hour 130 = .ok (.aload_n 0, 1) := by decide +kernel
theorem dX10_hour_131 : decode cX10_hour 131 = .ok (.iload_n 1, 1) := by decide +kernel
theorem dX10_hour_132 : decode cX10_hour 132 = .ok (.putfield 196, 3) := by decide +kernel
theorem dX10_hour_135 : decode cX10_hour 135 = .ok (.iconst 0, 1) := by decide +kernel
theorem dX10_hour_136 : decode cX10_hour 136 = .ok (.istore 4, 2) := by decide +kernel
theorem dX10_hour_138 : decode cX10_hour 138 = .ok (.iload 4, 2) := by decide +kernel
theorem dX10_hour_140 : decode cX10_hour 140 = .ok (.aload_n 0, 1) := by decide +kernel
theorem dX10_hour_141 : decode cX10_hour 141 = .ok (.getfield 153, 3) := by decide +kernel
theorem dX10_hour_144 : decode cX10_hour 144 = .ok (.if_icmp .ge 44, 3) := by decide +kernel
theorem dX10_hour_147 : decode cX10_hour 147 = .ok (.aload_n 0, 1) := by decide +kernel
theorem dX10_hour_148 : decode cX10_hour 148 = .ok (.getfield 74, 3) := by decide +kernel
theorem dX10_hour_151 : decode cX10_hour 151 = .ok (.iload 4, 2) := by decide +kernel
theorem dX10_hour_153 : decode cX10_hour 153 = .ok (.iaload, 1) := by decide +kernel
theorem dX10_hour_154 : decode cX10_hour 154 = .ok (.iconst 1, 1) := by decide +kernel
theorem dX10_hour_155 : decode cX10_hour 155 = .ok (.if_icmp .ne 27, 3) := by decide +kernel
theorem dX10_hour_158 : decode cX10_hour 158 = .ok (.aload_n 0, 1) := by decide +kernel
theorem dX10_hour_159 : decode cX10_hour 159 = .ok (.getfield 77, 3) := by decide +kernel
theorem dX10_hour_162 : decode cX10_hour 162 = .ok (.iload 4, 2) := by decide +kernel
theorem dX10_hour_164 : decode cX10_hour 164 = .ok (.iaload, 1) := by decide +kernel
theorem dX10_hour_165 : decode cX10_hour 165 = .ok (.aload_n 0, 1) := by decide +kernel
theorem dX10_hour_166 : decode cX10_hour 166 = .ok (.iload 4, 2) := by decide +kernel
theorem dX10_hour_168 : decode cX10_hour 168 = .ok (.invokevirtual 222, 3) := by decide +kernel
theorem dX10_hour_171 : decode cX10_hour 171 = .ok (.iadd, 1) := by decide +kernel
theorem dX10_hour_172 : decode cX10_hour 172 = .ok (.iload_n 1, 1) := by decide +kernel
theorem dX10_hour_173 : decode cX10_hour 173 = .ok (.if_icmp .ne 9, 3) := by decide +kernel
theorem dX10_hour_176 : decode cX10_hour 176 = .ok (.aload_n 0, 1) := by decide +kernel
theorem dX10_hour_177 : decode cX10_hour 177 = .ok (.iload 4, 2) := by decide +kernel
theorem dX10_hour_179 : decode cX10_hour 179 = .ok (.invokevirtual 225, 3) := by decide +kernel
theorem dX10_hour_182 : decode cX10_hour 182 = .ok (.iinc 4 1, 3) := by decide +kernel
theorem dX10_hour_185 : decode cX10_hour 185 = .ok (.goto (-47), 3) := by decide +kernel
theorem dX10_hour_188 : decode cX10_hour 188 = .ok (.iconst 0, 1) := by decide +kernel
theorem dX10_hour_189 : decode cX10_hour 189 = .ok (.istore 4, 2) := by decide +kernel
theorem dX10_hour_191 : decode cX10_hour 191 = .ok (.iload 4, 2) := by decide +kernel
theorem dX10_hour_193 : decode cX10_hour 193 = .ok (.aload_n 0, 1) := by decide +kernel
theorem dX10_hour_194 : decode cX10_hour 194 = .ok (.getfield 150, 3) := by decide +kernel
theorem dX10_hour_197 : decode cX10_hour 197 = .ok (.if_icmp .ge 39, 3) := by decide +kernel
theorem dX10_hour_200 : decode cX10_hour 200 = .ok (.aload_n 0, 1) := by decide +kernel
theorem dX10_hour_201 : decode cX10_hour 201 = .ok (.getfield 26, 3) := by decide +kernel
theorem dX10_hour_204 : decode cX10_hour 204 = .ok (.iload 4, 2) := by decide +kernel
theorem dX10_hour_206 : decode cX10_hour 206 = .ok (.iaload, 1) := by decide +kernel
theorem dX10_hour_207 : decode cX10_hour 207 = .ok (.iconst 3, 1) := by decide +kernel
theorem dX10_hour_208 : decode cX10_hour 208 = .ok (.if_icmp .ne 22, 3) := by decide +kernel
theorem dX10_hour_211 : decode cX10_hour 211 = .ok (.aload_n 0, 1) := by decide +kernel
theorem dX10_hour_212 : decode cX10_hour 212 = .ok (.getfield 44, 3) := by decide +kernel
theorem dX10_hour_215 : decode cX10_hour 215 = .ok (.iload 4, 2) := by decide +kernel
theorem dX10_hour_217 : decode cX10_hour 217 = .ok (.iaload, 1) := by decide +kernel
theorem dX10_hour_218 : decode cX10_hour 218 = .ok (.iload_n 1, 1) := by decide +kernel
theorem dX10_hour_219 : decode cX10_hour 219 = .ok (.if_icmp .gt 11, 3) := by decide +kernel
theorem dX10_hour_222 : decode cX10_hour 222 = .ok (.aload_n 0, 1) := by decide +kernel
theorem dX10_hour_223 : decode cX10_hour 223 = .ok (.getfield 26, 3) := by decide +kernel
theorem dX10_hour_226 : decode cX10_hour 226 = .ok (.iload 4, 2) := by decide +kernel
theorem dX10_hour_228 : decode cX10_hour 228 = .ok (.iconst 0, 1) := by decide +kernel
theorem dX10_hour_229 : decode cX10_hour 229 = .ok (.iastore, 1) := by decide +kernel
theorem dX10_hour_230 : decode cX10_hour 230 = .ok (.iinc 4 1, 3) := by decide +kernel
theorem dX10_hour_233 : decode cX10_hour 233 = .ok (.goto (-42), 3) := by decide +kernel
theorem dX10_hour_236 : decode cX10_hour 236 = .ok (.iconst 0, 1) := by decide +kernel
theorem dX10_hour_237 : decode cX10_hour 237 = .ok (.istore 4, 2) := by decide +kernel
theorem dX10_hour_239 : decode cX10_hour 239 = .ok (.iload 4, 2) := by decide +kernel
theorem dX10_hour_241 : decode cX10_hour 241 = .ok (.aload_n 0, 1) := by decide +kernel
theorem dX10_hour_242 : decode cX10_hour 242 = .ok (.getfield 150, 3) := by decide +kernel
theorem dX10_hour_245 : decode cX10_hour 245 = .ok (.if_icmp .ge 61, 3) := by decide +kernel
theorem dX10_hour_248 : decode cX10_hour 248 = .ok (.aload_n 0, 1) := by decide +kernel
theorem dX10_hour_249 : decode cX10_hour 249 = .ok (.getfield 26, 3) := by decide +kernel
theorem dX10_hour_252 : decode cX10_hour 252 = .ok (.iload 4, 2) := by decide +kernel
theorem dX10_hour_254 : decode cX10_hour 254 = .ok (.iaload, 1) := by decide +kernel
theorem dX10_hour_255 : decode cX10_hour 255 = .ok (.ifCond .eq 14, 3) := by decide +kernel
theorem dX10_hour_258 : decode cX10_hour 258 = .ok (.aload_n 0, 1) := by decide +kernel
theorem dX10_hour_259 : decode cX10_hour 259 = .ok (.getfield 26, 3) := by decide +kernel
theorem dX10_hour_262 : decode cX10_hour 262 = .ok (.iload 4, 2) := by decide +kernel
theorem dX10_hour_264 : decode cX10_hour 264 = .ok (.iaload, 1) := by decide +kernel
theorem dX10_hour_265 : decode cX10_hour 265 = .ok (.iconst 1, 1) := by decide +kernel
theorem dX10_hour_266 : decode cX10_hour 266 = .ok (.if_icmp .ne 34, 3) := by decide +kernel
theorem dX10_hour_269 : decode cX10_hour 269 = .ok (.aload_n 0, 1) := by decide +kernel
theorem dX10_hour_270 : decode cX10_hour 270 = .ok (.getfield 32, 3) := by decide +kernel
theorem dX10_hour_273 : decode cX10_hour 273 = .ok (.iload 4, 2) := by decide +kernel
theorem dX10_hour_275 : decode cX10_hour 275 = .ok (.iaload, 1) := by decide +kernel
theorem dX10_hour_276 : decode cX10_hour 276 = .ok (.iload_n 1, 1) := by decide +kernel
theorem dX10_hour_277 : decode cX10_hour 277 = .ok (.if_icmp .gt 23, 3) := by decide +kernel
theorem dX10_hour_280 : decode cX10_hour 280 = .ok (.aload_n 0, 1) := by decide +kernel
theorem dX10_hour_281 : decode cX10_hour 281 = .ok (.iload 4, 2) := by decide +kernel
theorem dX10_hour_283 : decode cX10_hour 283 = .ok (.invokevirtual 182, 3) := by decide +kernel
theorem dX10_hour_286 : decode cX10_hour 286 = .ok (.iconst (-1), 1) := by decide +kernel
theorem dX10_hour_287 : decode cX10_hour 287 = .ok (.if_icmp .ne 13, 3) := by decide +kernel
theorem dX10_hour_290 : decode cX10_hour 290 = .ok (.aload_n 0, 1) := by decide +kernel
theorem dX10_hour_291 : decode cX10_hour 291 = .ok (.iload 4, 2) := by decide +kernel
theorem dX10_hour_293 : decode cX10_hour 293 = .ok (.aload_n 0, 1) := by decide +kernel
theorem dX10_hour_294 : decode cX10_hour 294 = .ok (.getfield 160, 3) := by decide +kernel
theorem dX10_hour_297 : decode cX10_hour 297 = .ok (.invokevirtual 228, 3) := by decide +kernel
theorem dX10_hour_300 : decode cX10_hour 300 = .ok (.iinc 4 1, 3) := by decide +kernel
theorem dX10_hour_303 : decode cX10_hour 303 = .ok (.goto (-64), 3) := by decide +kernel
theorem dX10_hour_306 : decode cX10_hour 306 = .ok (.aload_n 0, 1) := by decide +kernel
theorem dX10_hour_307 : decode cX10_hour 307 = .ok (.iconst 1, 1) := by decide +kernel
theorem dX10_hour_308 : decode cX10_hour 308 = .ok (.putfield 163, 3) := by decide +kernel
theorem dX10_hour_311 : decode cX10_hour 311 = .ok (.iload_n 2, 1) := by decide +kernel
theorem dX10_hour_312 : decode cX10_hour 312 = .ok (.ireturn, 1) := by decide +kernel
theorem dX10_queue_0 : decode cX10_queue 0 = .ok (.iconst 0, 1) := by decide +kernel
theorem dX10_queue_1 : decode cX10_queue 1 = .ok (.istore_n 2, 1) := by decide +kernel
theorem dX10_queue_2 : decode cX10_queue 2 = .ok (.iconst 0, 1) := by decide +kernel
theorem dX10_queue_3 : decode cX10_queue 3 = .ok (.istore_n 3, 1) := by decide +kernel
theorem dX10_queue_4 : decode cX10_queue 4 = .ok (.iload_n 3, 1) := by decide +kernel
theorem dX10_queue_5 : decode cX10_queue 5 = .ok (.aload_n 0, 1) := by decide +kernel
theorem dX10_queue_6 : decode cX10_queue 6 = .ok (.getfield 153, 3) := by decide +kernel
theorem dX10_queue_9 : decode cX10_queue 9 = .ok (.if_icmp .ge 95, 3) := by decide +kernel
theorem dX10_queue_12 : decode cX10_queue 12 = .ok (.aload_n 0, 1) := by decide +kernel
theorem dX10_queue_13 : decode cX10_queue 13 = .ok (.getfield 74, 3) := by decide +kernel
theorem dX10_queue_16 : decode cX10_queue 16 = .ok (.iload_n 3, 1) := by decide +kernel
theorem dX10_queue_17 : decode cX10_queue 17 = .ok (.iaload, 1) := by decide +kernel
theorem dX10_queue_18 : decode cX10_queue 18 = .ok (.ifCond .ne 80, 3) := by decide +kernel
theorem dX10_queue_21 : decode cX10_queue 21 = .ok (.aload_n 0, 1) := by decide +kernel
theorem dX10_queue_22 : decode cX10_queue 22 = .ok (.getfield 65, 3) := by decide +kernel
theorem dX10_queue_25 : decode cX10_queue 25 = .ok (.iload_n 3, 1) := by decide +kernel
theorem dX10_queue_26 : decode cX10_queue 26 = .ok (.iaload, 1) := by decide +kernel
theorem dX10_queue_27 : decode cX10_queue 27 = .ok (.iload_n 1, 1) := by decide +kernel
theorem dX10_queue_28 : decode cX10_queue 28 = .ok (.if_icmp .le 6, 3) := by decide +kernel
theorem dX10_queue_31 : decode cX10_queue 31 = .ok (.goto 67, 3) := by decide +kernel
theorem dX10_queue_34 : decode cX10_queue 34 = .ok (.iload_n 2, 1) := by decide +kernel
theorem dX10_queue_35 : decode cX10_queue 35 = .ok (.istore 4, 2) := by decide +kernel
theorem dX10_queue_37 : decode cX10_queue 37 = .ok (.iload 4, 2) := by decide +kernel
theorem dX10_queue_39 : decode cX10_queue 39 = .ok (.ifCond .le 48, 3) := by decide +kernel
theorem dX10_queue_42 : decode cX10_queue 42 = .ok (.aload_n 0, 1) := by decide +kernel
theorem dX10_queue_43 : decode cX10_queue 43 = .ok (.getfield 59, 3) := by decide +kernel
theorem dX10_queue_46 : decode cX10_queue 46 = .ok (.aload_n 0, 1) := by decide +kernel
theorem dX10_queue_47 : decode cX10_queue 47 = .ok (.getfield 135, 3) := by decide +kernel
theorem dX10_queue_50 : decode cX10_queue 50 = .ok (.iload 4, 2) := by decide +kernel
theorem dX10_queue_52 : decode cX10_queue 52 = .ok (.iconst 1, 1) := by decide +kernel
theorem dX10_queue_53 : decode cX10_queue 53 = .ok (.isub, 1) := by decide +kernel
theorem dX10_queue_54 : decode cX10_queue 54 = .ok (.iaload, 1) := by decide +kernel
theorem dX10_queue_55 : decode cX10_queue 55 = .ok (.iaload, 1) := by decide +kernel
theorem dX10_queue_56 : decode cX10_queue 56 = .ok (.aload_n 0, 1) := by decide +kernel
theorem dX10_queue_57 : decode cX10_queue 57 = .ok (.getfield 59, 3) := by decide +kernel
theorem dX10_queue_60 : decode cX10_queue 60 = .ok (.iload_n 3, 1) := by decide +kernel
theorem dX10_queue_61 : decode cX10_queue 61 = .ok (.iaload, 1) := by decide +kernel
theorem dX10_queue_62 : decode cX10_queue 62 = .ok (.if_icmp .ge 25, 3) := by decide +kernel
theorem dX10_queue_65 : decode cX10_queue 65 = .ok (.aload_n 0, 1) := by decide +kernel
theorem dX10_queue_66 : decode cX10_queue 66 = .ok (.getfield 135, 3) := by decide +kernel
theorem dX10_queue_69 : decode cX10_queue 69 = .ok (.iload 4, 2) := by decide +kernel
theorem dX10_queue_71 : decode cX10_queue 71 = .ok (.aload_n 0, 1) := by decide +kernel
theorem dX10_queue_72 : decode cX10_queue 72 = .ok (.getfield 135, 3) := by decide +kernel
theorem dX10_queue_75 : decode cX10_queue 75 = .ok (.iload 4, 2) := by decide +kernel
theorem dX10_queue_77 : decode cX10_queue 77 = .ok (.iconst 1, 1) := by decide +kernel
theorem dX10_queue_78 : decode cX10_queue 78 = .ok (.isub, 1) := by decide +kernel
theorem dX10_queue_79 : decode cX10_queue 79 = .ok (.iaload, 1) := by decide +kernel
theorem dX10_queue_80 : decode cX10_queue 80 = .ok (.iastore, 1) := by decide +kernel
theorem dX10_queue_81 : decode cX10_queue 81 = .ok (.iinc 4 (-1), 3) := by decide +kernel
theorem dX10_queue_84 : decode cX10_queue 84 = .ok (.goto (-47), 3) := by decide +kernel
theorem dX10_queue_87 : decode cX10_queue 87 = .ok (.aload_n 0, 1) := by decide +kernel
theorem dX10_queue_88 : decode cX10_queue 88 = .ok (.getfield 135, 3) := by decide +kernel
theorem dX10_queue_91 : decode cX10_queue 91 = .ok (.iload 4, 2) := by decide +kernel
theorem dX10_queue_93 : decode cX10_queue 93 = .ok (.iload_n 3, 1) := by decide +kernel
theorem dX10_queue_94 : decode cX10_queue 94 = .ok (.iastore, 1) := by decide +kernel
theorem dX10_queue_95 : decode cX10_queue 95 = .ok (.iinc 2 1, 3) := by decide +kernel
theorem dX10_queue_98 : decode cX10_queue 98 = .ok (.iinc 3 1, 3) := by decide +kernel
theorem dX10_queue_101 : decode cX10_queue 101 = .ok (.goto (-97), 3) := by decide +kernel
theorem dX10_queue_104 : decode cX10_queue 104 = .ok (.iload_n 2, 1) := by decide +kernel
theorem dX10_queue_105 : decode cX10_queue 105 = .ok (.ireturn, 1) := by decide +kernel
theorem dX10_sends_0 : decode cX10_sends 0 = .ok (.aload_n 0, 1) := by decide +kernel
theorem dX10_sends_1 : decode cX10_sends 1 = .ok (.iload_n 1, 1) := by decide +kernel
theorem dX10_sends_2 : decode cX10_sends 2 = .ok (.iload_n 2, 1) := by decide +kernel
theorem dX10_sends_3 : decode cX10_sends 3 = .ok (.invokevirtual 232, 3) := by decide +kernel
theorem dX10_sends_6 : decode cX10_sends 6 = .ok (.ifCond .ne 15, 3) := by decide +kernel
theorem dX10_sends_9 : decode cX10_sends 9 = .ok (.aload_n 0, 1) := by decide +kernel
theorem dX10_sends_10 : decode cX10_sends 10 = .ok (.getfield 89, 3) := by decide +kernel
theorem dX10_sends_13 : decode cX10_sends 13 = .ok (.iload_n 1, 1) := by decide +kernel
theorem dX10_sends_14 : decode cX10_sends 14 = .ok (.dup2, 1) := by decide +kernel
theorem dX10_sends_15 : decode cX10_sends 15 = .ok (.iaload, 1) := by decide +kernel
theorem dX10_sends_16 : decode cX10_sends 16 = .ok (.iconst 1, 1) := by decide +kernel
theorem dX10_sends_17 : decode cX10_sends 17 = .ok (.iadd, 1) := by decide +kernel
theorem dX10_sends_18 : decode cX10_sends 18 = .ok (.iastore, 1) := by decide +kernel
theorem dX10_sends_19 : decode cX10_sends 19 = .ok (.iconst 0, 1) := by decide +kernel
theorem dX10_sends_20 : decode cX10_sends 20 = .ok (.ireturn, 1) := by decide +kernel
theorem dX10_sends_21 : decode cX10_sends 21 = .ok (.aload_n 0, 1) := by decide +kernel
theorem dX10_sends_22 : decode cX10_sends 22 = .ok (.iconst 0, 1) := by decide +kernel
theorem dX10_sends_23 : decode cX10_sends 23 = .ok (.putfield 235, 3) := by decide +kernel
theorem dX10_sends_26 : decode cX10_sends 26 = .ok (.aload_n 0, 1) := by decide +kernel
theorem dX10_sends_27 : decode cX10_sends 27 = .ok (.iload_n 1, 1) := by decide +kernel
theorem dX10_sends_28 : decode cX10_sends 28 = .ok (.iload_n 2, 1) := by decide +kernel
theorem dX10_sends_29 : decode cX10_sends 29 = .ok (.iconst (-1), 1) := by decide +kernel
theorem dX10_sends_30 : decode cX10_sends 30 = .ok (.invokevirtual 238, 3) := by decide +kernel
theorem dX10_sends_33 : decode cX10_sends 33 = .ok (.istore_n 3, 1) := by decide +kernel
theorem dX10_sends_34 : decode cX10_sends 34 = .ok (.iload_n 3, 1) := by decide +kernel
theorem dX10_sends_35 : decode cX10_sends 35 = .ok (.iconst (-1), 1) := by decide +kernel
theorem dX10_sends_36 : decode cX10_sends 36 = .ok (.if_icmp .eq 24, 3) := by decide +kernel
theorem dX10_sends_39 : decode cX10_sends 39 = .ok (.aload_n 0, 1) := by decide +kernel
theorem dX10_sends_40 : decode cX10_sends 40 = .ok (.getfield 68, 3) := by decide +kernel
theorem dX10_sends_43 : decode cX10_sends 43 = .ok (.iload_n 1, 1) := by decide +kernel
theorem dX10_sends_44 : decode cX10_sends 44 = .ok (.iaload, 1) := by decide +kernel
theorem dX10_sends_45 : decode cX10_sends 45 = .ok (.bipush (-2), 2) := by decide +kernel
theorem dX10_sends_47 : decode cX10_sends 47 = .ok (.if_icmp .ne 13, 3) := by decide +kernel
theorem dX10_sends_50 : decode cX10_sends 50 = .ok (.aload_n 0, 1) := by decide +kernel
theorem dX10_sends_51 : decode cX10_sends 51 = .ok (.iload_n 1, 1) := by decide +kernel
theorem dX10_sends_52 : decode cX10_sends 52 = .ok (.iload_n 2, 1) := by decide +kernel
theorem dX10_sends_53 : decode cX10_sends 53 = .ok (.iload_n 3, 1) := by decide +kernel
theorem dX10_sends_54 : decode cX10_sends 54 = .ok (.invokevirtual 238, 3) := by decide +kernel
theorem dX10_sends_57 : decode cX10_sends 57 = .ok (.goto 4, 3) := by decide +kernel
theorem dX10_sends_60 : decode cX10_sends 60 = .ok (.iconst (-1), 1) := by decide +kernel
theorem dX10_sends_61 : decode cX10_sends 61 = .ok (.istore 4, 2) := by decide +kernel
theorem dX10_sends_63 : decode cX10_sends 63 = .ok (.iload_n 3, 1) := by decide +kernel
theorem dX10_sends_64 : decode cX10_sends 64 = .ok (.iconst (-1), 1) := by decide +kernel
theorem dX10_sends_65 : decode cX10_sends 65 = .ok (.if_icmp .eq 20, 3) := by decide +kernel
theorem dX10_sends_68 : decode cX10_sends 68 = .ok (.aload_n 0, 1) := by decide +kernel
theorem dX10_sends_69 : decode cX10_sends 69 = .ok (.getfield 68, 3) := by decide +kernel
theorem dX10_sends_72 : decode cX10_sends 72 = .ok (.iload_n 1, 1) := by decide +kernel
theorem dX10_sends_73 : decode cX10_sends 73 = .ok (.iaload, 1) := by decide +kernel
theorem dX10_sends_74 : decode cX10_sends 74 = .ok (.bipush (-2), 2) := by decide +kernel
theorem dX10_sends_76 : decode cX10_sends 76 = .ok (.if_icmp .ne 41, 3) := by decide +kernel
theorem dX10_sends_79 : decode cX10_sends 79 = .ok (.iload 4, 2) := by decide +kernel
theorem dX10_sends_81 : decode cX10_sends 81 = .ok (.iconst (-1), 1) := by decide +kernel
theorem dX10_sends_82 : decode cX10_sends 82 = .ok (.if_icmp .ne 35, 3) := by decide +kernel
theorem dX10_sends_85 : decode cX10_sends 85 = .ok (.aload_n 0, 1) := by decide +kernel
theorem dX10_sends_86 : decode cX10_sends 86 = .ok (.getfield 235, 3) := by decide +kernel
theorem dX10_sends_89 : decode cX10_sends 89 = .ok (.ifCond .eq 16, 3) := by decide +kernel
theorem dX10_sends_92 : decode cX10_sends 92 = .ok (.aload_n 0, 1) := by decide +kernel
theorem dX10_sends_93 : decode cX10_sends 93 = .ok (.getfield 95, 3) := by decide +kernel
theorem dX10_sends_96 : decode cX10_sends 96 = .ok (.iload_n 1, 1) := by decide +kernel
theorem dX10_sends_97 : decode cX10_sends 97 = .ok (.dup2, 1) := by decide +kernel
theorem dX10_sends_98 : decode cX10_sends 98 = .ok (.iaload, 1) := by decide +kernel
theorem dX10_sends_99 : decode cX10_sends 99 = .ok (.iconst 1, 1) := by decide +kernel
theorem dX10_sends_100 : decode cX10_sends 100 = .ok (.iadd, 1) := by decide +kernel
theorem dX10_sends_101 : decode cX10_sends 101 = .ok (.iastore, 1) := by decide +kernel
theorem dX10_sends_102 : decode cX10_sends 102 = .ok (.goto 13, 3) := by decide +kernel
theorem dX10_sends_105 : decode cX10_sends 105 = .ok (.aload_n 0, 1) := by decide +kernel
theorem dX10_sends_106 : decode cX10_sends 106 = .ok (.getfield 92, 3) := by decide +kernel
theorem dX10_sends_109 : decode cX10_sends 109 = .ok (.iload_n 1, 1) := by decide +kernel
theorem dX10_sends_110 : decode cX10_sends 110 = .ok (.dup2, 1) := by decide +kernel
theorem dX10_sends_111 : decode cX10_sends 111 = .ok (.iaload, 1) := by decide +kernel
theorem dX10_sends_112 : decode cX10_sends 112 = .ok (.iconst 1, 1) := by decide +kernel
theorem dX10_sends_113 : decode cX10_sends 113 = .ok (.iadd, 1) := by decide +kernel
theorem dX10_sends_114 : decode cX10_sends 114 = .ok (.iastore, 1) := by decide +kernel
theorem dX10_sends_115 : decode cX10_sends 115 = .ok (.iconst 0, 1) := by decide +kernel
theorem dX10_sends_116 : decode cX10_sends 116 = .ok (.ireturn, 1) := by decide +kernel
theorem dX10_sends_117 : decode cX10_sends 117 = .ok (.aload_n 0, 1) := by decide +kernel
theorem dX10_sends_118 : decode cX10_sends 118 = .ok (.getfield 74, 3) := by decide +kernel
theorem dX10_sends_121 : decode cX10_sends 121 = .ok (.iload_n 1, 1) := by decide +kernel
theorem dX10_sends_122 : decode cX10_sends 122 = .ok (.iconst 1, 1) := by decide +kernel
theorem dX10_sends_123 : decode cX10_sends 123 = .ok (.iastore, 1) := by decide +kernel
theorem dX10_sends_124 : decode cX10_sends 124 = .ok (.aload_n 0, 1) := by decide +kernel
theorem dX10_sends_125 : decode cX10_sends 125 = .ok (.getfield 77, 3) := by decide +kernel
theorem dX10_sends_128 : decode cX10_sends 128 = .ok (.iload_n 1, 1) := by decide +kernel
theorem dX10_sends_129 : decode cX10_sends 129 = .ok (.iload_n 2, 1) := by decide +kernel
theorem dX10_sends_130 : decode cX10_sends 130 = .ok (.iastore, 1) := by decide +kernel
theorem dX10_sends_131 : decode cX10_sends 131 = .ok (.aload_n 0, 1) := by decide +kernel
theorem dX10_sends_132 : decode cX10_sends 132 = .ok (.getfield 80, 3) := by decide +kernel
theorem dX10_sends_135 : decode cX10_sends 135 = .ok (.iload_n 1, 1) := by decide +kernel
theorem dX10_sends_136 : decode cX10_sends 136 = .ok (.iload_n 3, 1) := by decide +kernel
theorem dX10_sends_137 : decode cX10_sends 137 = .ok (.iastore, 1) := by decide +kernel
theorem dX10_sends_138 : decode cX10_sends 138 = .ok (.aload_n 0, 1) := by decide +kernel
theorem dX10_sends_139 : decode cX10_sends 139 = .ok (.getfield 83, 3) := by decide +kernel
theorem dX10_sends_142 : decode cX10_sends 142 = .ok (.iload_n 1, 1) := by decide +kernel
theorem dX10_sends_143 : decode cX10_sends 143 = .ok (.iload 4, 2) := by decide +kernel
theorem dX10_sends_145 : decode cX10_sends 145 = .ok (.iastore, 1) := by decide +kernel
theorem dX10_sends_146 : decode cX10_sends 146 = .ok (.aload_n 0, 1) := by decide +kernel
theorem dX10_sends_147 : decode cX10_sends 147 = .ok (.iload_n 3, 1) := by decide +kernel
theorem dX10_sends_148 : decode cX10_sends 148 = .ok (.iload_n 1, 1) := by decide +kernel
theorem dX10_sends_149 : decode cX10_sends 149 = .ok (.iload_n 2, 1) := by decide +kernel
theorem dX10_sends_150 : decode cX10_sends 150 = .ok (.invokevirtual 242, 3) := by decide +kernel
theorem dX10_sends_153 : decode cX10_sends 153 = .ok (.iload 4, 2) := by decide +kernel
theorem dX10_sends_155 : decode cX10_sends 155 = .ok (.iconst (-1), 1) := by decide +kernel
theorem dX10_sends_156 : decode cX10_sends 156 = .ok (.if_icmp .eq 11, 3) := by decide +kernel
theorem dX10_sends_159 : decode cX10_sends 159 = .ok (.aload_n 0, 1) := by decide +kernel
theorem dX10_sends_160 : decode cX10_sends 160 = .ok (.iload 4, 2) := by decide +kernel
theorem dX10_sends_162 : decode cX10_sends 162 = .ok (.iload_n 1, 1) := by decide +kernel
theorem dX10_sends_163 : decode cX10_sends 163 = .ok (.iload_n 2, 1) := by decide +kernel
theorem dX10_sends_164 : decode cX10_sends 164 = .ok (.invokevirtual 242, 3) := by decide +kernel
theorem dX10_sends_167 : decode cX10_sends 167 = .ok (.aload_n 0, 1) := by decide +kernel
theorem dX10_sends_168 : decode cX10_sends 168 = .ok (.getfield 86, 3) := by decide +kernel
theorem dX10_sends_171 : decode cX10_sends 171 = .ok (.iload_n 1, 1) := by decide +kernel
theorem dX10_sends_172 : decode cX10_sends 172 = .ok (.aload_n 0, 1) := by decide +kernel
theorem dX10_sends_173 : decode cX10_sends 173 = .ok (.getfield 71, 3) := by decide +kernel
theorem dX10_sends_176 : decode cX10_sends 176 = .ok (.iload_n 1, 1) := by decide +kernel
theorem dX10_sends_177 : decode cX10_sends 177 = .ok (.baload, 1) := by decide +kernel
theorem dX10_sends_178 : decode cX10_sends 178 = .ok (.ifCond .eq 12, 3) := by decide +kernel
theorem dX10_sends_181 : decode cX10_sends 181 = .ok (.aload_n 0, 1) := by decide +kernel
theorem dX10_sends_182 : decode cX10_sends 182 = .ok (.iload_n 1, 1) := by decide +kernel
theorem dX10_sends_183 : decode cX10_sends 183 = .ok (.iload_n 2, 1) := by decide +kernel
theorem dX10_sends_184 : decode cX10_sends 184 = .ok (.invokevirtual 246, 3) := by decide +kernel
theorem dX10_sends_187 : decode cX10_sends 187 = .ok (.goto 4, 3) := by decide +kernel
theorem dX10_sends_190 : decode cX10_sends 190 = .ok (.iconst (-1), 1) := by decide +kernel
theorem dX10_sends_191 : decode cX10_sends 191 = .ok (.iastore, 1) := by decide +kernel
theorem dX10_sends_192 : decode cX10_sends 192 = .ok (.aload_n 0, 1) := by decide +kernel
theorem dX10_sends_193 : decode cX10_sends 193 = .ok (.getfield 86, 3) := by decide +kernel
theorem dX10_sends_196 : decode cX10_sends 196 = .ok (.iload_n 1, 1) := by decide +kernel
theorem dX10_sends_197 : decode cX10_sends 197 = .ok (.iaload, 1) := by decide +kernel
theorem dX10_sends_198 : decode cX10_sends 198 = .ok (.iconst (-1), 1) := by decide +kernel
theorem dX10_sends_199 : decode cX10_sends 199 = .ok (.if_icmp .eq 15, 3) := by decide +kernel
theorem dX10_sends_202 : decode cX10_sends 202 = .ok (.aload_n 0, 1) := by decide +kernel
theorem dX10_sends_203 : decode cX10_sends 203 = .ok (.aload_n 0, 1) := by decide +kernel
theorem dX10_sends_204 : decode cX10_sends 204 = .ok (.getfield 86, 3) := by decide +kernel
theorem dX10_sends_207 : decode cX10_sends 207 = .ok (.iload_n 1, 1) := by decide +kernel
theorem dX10_sends_208 : decode cX10_sends 208 = .ok (.iaload, 1) := by decide +kernel
theorem dX10_sends_209 : decode cX10_sends 209 = .ok (.iload_n 1, 1) := by decide +kernel
theorem dX10_sends_210 : decode cX10_sends 210 = .ok (.iload_n 2, 1) := by decide +kernel
theorem dX10_sends_211 : decode cX10_sends 211 = .ok (.invokevirtual 242, 3) := by decide +kernel
theorem dX10_sends_214 : decode cX10_sends 214 = .ok (.iconst 1, 1) := by decide +kernel
theorem dX10_sends_215 : decode cX10_sends 215 = .ok (.ireturn, 1) := by decide +kernel
theorem dX10_boards_0 : decode cX10_boards 0 = .ok (.aload_n 0, 1) := by decide +kernel
theorem dX10_boards_1 : decode cX10_boards 1 = .ok (.getfield 56, 3) := by decide +kernel
theorem dX10_boards_4 : decode cX10_boards 4 = .ok (.iload_n 2, 1) := by decide +kernel
theorem dX10_boards_5 : decode cX10_boards 5 = .ok (.baload, 1) := by decide +kernel
theorem dX10_boards_6 : decode cX10_boards 6 = .ok (.ifCond .eq 29, 3) := by decide +kernel
theorem dX10_boards_9 : decode cX10_boards 9 = .ok (.aload_n 0, 1) := by decide +kernel
theorem dX10_boards_10 : decode cX10_boards 10 = .ok (.getfield 26, 3) := by decide +kernel
theorem dX10_boards_13 : decode cX10_boards 13 = .ok (.iload_n 1, 1) := by decide +kernel
theorem dX10_boards_14 : decode cX10_boards 14 = .ok (.iaload, 1) := by decide +kernel
theorem dX10_boards_15 : decode cX10_boards 15 = .ok (.ifCond .ne 20, 3) := by decide +kernel
theorem dX10_boards_18 : decode cX10_boards 18 = .ok (.aload_n 0, 1) := by decide +kernel
theorem dX10_boards_19 : decode cX10_boards 19 = .ok (.dup, 1) := by decide +kernel
theorem dX10_boards_20 : decode cX10_boards 20 = .ok (.getfield 205, 3) := by decide +kernel
theorem dX10_boards_23 : decode cX10_boards 23 = .ok (.iconst 1, 1) := by decide +kernel
theorem dX10_boards_24 : decode cX10_boards 24 = .ok (.isub, 1) := by decide +kernel
theorem dX10_boards_25 : decode cX10_boards 25 = .ok (.putfield 205, 3) := by decide +kernel
theorem dX10_boards_28 : decode cX10_boards 28 = .ok (.aload_n 0, 1) := by decide +kernel
theorem dX10_boards_29 : decode cX10_boards 29 = .ok (.getfield 29, 3) := by decide +kernel
theorem dX10_boards_32 : decode cX10_boards 32 = .ok (.iload_n 1, 1) := by decide +kernel
theorem dX10_boards_33 : decode cX10_boards 33 = .ok (.iload_n 3, 1) := by decide +kernel
theorem dX10_boards_34 : decode cX10_boards 34 = .ok (.iastore, 1) := by decide +kernel
theorem dX10_boards_35 : decode cX10_boards 35 = .ok (.aload_n 0, 1) := by decide +kernel
theorem dX10_boards_36 : decode cX10_boards 36 = .ok (.iload_n 1, 1) := by decide +kernel
theorem dX10_boards_37 : decode cX10_boards 37 = .ok (.invokevirtual 250, 3) := by decide +kernel
theorem dX10_boards_40 : decode cX10_boards 40 = .ok (.aload_n 0, 1) := by decide +kernel
theorem dX10_boards_41 : decode cX10_boards 41 = .ok (.getfield 26, 3) := by decide +kernel
theorem dX10_boards_44 : decode cX10_boards 44 = .ok (.iload_n 1, 1) := by decide +kernel
theorem dX10_boards_45 : decode cX10_boards 45 = .ok (.iconst 2, 1) := by decide +kernel
theorem dX10_boards_46 : decode cX10_boards 46 = .ok (.iastore, 1) := by decide +kernel
theorem dX10_boards_47 : decode cX10_boards 47 = .ok (.aload_n 0, 1) := by decide +kernel
theorem dX10_boards_48 : decode cX10_boards 48 = .ok (.getfield 41, 3) := by decide +kernel
theorem dX10_boards_51 : decode cX10_boards 51 = .ok (.iload_n 1, 1) := by decide +kernel
theorem dX10_boards_52 : decode cX10_boards 52 = .ok (.iload_n 2, 1) := by decide +kernel
theorem dX10_boards_53 : decode cX10_boards 53 = .ok (.iastore, 1) := by decide +kernel
theorem dX10_boards_54 : decode cX10_boards 54 = .ok (.return_, 1) := by decide +kernel
theorem dX10_canBe_0 : decode cX10_canBe 0 = .ok (.aload_n 0, 1) := by decide +kernel
theorem dX10_canBe_1 : decode cX10_canBe 1 = .ok (.getfield 56, 3) := by decide +kernel
theorem dX10_canBe_4 : decode cX10_canBe 4 = .ok (.iload_n 2, 1) := by decide +kernel
theorem dX10_canBe_5 : decode cX10_canBe 5 = .ok (.baload, 1) := by decide +kernel
theorem dX10_canBe_6 : decode cX10_canBe 6 = .ok (.ifCond .ne 20, 3) := by decide +kernel
theorem dX10_canBe_9 : decode cX10_canBe 9 = .ok (.aload_n 0, 1) := by decide +kernel
theorem dX10_canBe_10 : decode cX10_canBe 10 = .ok (.getfield 26, 3) := by decide +kernel
theorem dX10_canBe_13 : decode cX10_canBe 13 = .ok (.iload_n 1, 1) := by decide +kernel
theorem dX10_canBe_14 : decode cX10_canBe 14 = .ok (.iaload, 1) := by decide +kernel
theorem dX10_canBe_15 : decode cX10_canBe 15 = .ok (.ifCond .ne 7, 3) := by decide +kernel
theorem dX10_canBe_18 : decode cX10_canBe 18 = .ok (.iconst 1, 1) := by decide +kernel
theorem dX10_canBe_19 : decode cX10_canBe 19 = .ok (.goto 35, 3) := by decide +kernel
theorem dX10_canBe_22 : decode cX10_canBe 22 = .ok (.iconst 0, 1) := by decide +kernel
theorem dX10_canBe_23 : decode cX10_canBe 23 = .ok (.goto 31, 3) := by decide +kernel
theorem dX10_canBe_26 : decode cX10_canBe 26 = .ok (.aload_n 0, 1) := by decide +kernel
theorem dX10_canBe_27 : decode cX10_canBe 27 = .ok (.getfield 26, 3) := by decide +kernel
theorem dX10_canBe_30 : decode cX10_canBe 30 = .ok (.iload_n 1, 1) := by decide +kernel
theorem dX10_canBe_31 : decode cX10_canBe 31 = .ok (.iaload, 1) := by decide +kernel
theorem dX10_canBe_32 : decode cX10_canBe 32 = .ok (.iconst 1, 1) := by decide +kernel
theorem dX10_canBe_33 : decode cX10_canBe 33 = .ok (.if_icmp .eq 16, 3) := by decide +kernel
theorem dX10_canBe_36 : decode cX10_canBe 36 = .ok (.aload_n 0, 1) := by decide +kernel
theorem dX10_canBe_37 : decode cX10_canBe 37 = .ok (.getfield 26, 3) := by decide +kernel
theorem dX10_canBe_40 : decode cX10_canBe 40 = .ok (.iload_n 1, 1) := by decide +kernel
theorem dX10_canBe_41 : decode cX10_canBe 41 = .ok (.iaload, 1) := by decide +kernel
theorem dX10_canBe_42 : decode cX10_canBe 42 = .ok (.ifCond .ne 11, 3) := by decide +kernel
theorem dX10_canBe_45 : decode cX10_canBe 45 = .ok (.iload_n 3, 1) := by decide +kernel
theorem dX10_canBe_46 : decode cX10_canBe 46 = .ok (.ifCond .le 7, 3) := by decide +kernel
theorem dX10_canBe_49 : decode cX10_canBe 49 = .ok (.iconst 1, 1) := by decide +kernel
theorem dX10_canBe_50 : decode cX10_canBe 50 = .ok (.goto 4, 3) := by decide +kernel
theorem dX10_canBe_53 : decode cX10_canBe 53 = .ok (.iconst 0, 1) := by decide +kernel
theorem dX10_canBe_54 : decode cX10_canBe 54 = .ok (.ireturn, 1) := by decide +kernel
theorem dX10_seek_0 : decode cX10_seek 0 = .ok (.aload_n 0, 1) := by decide +kernel
theorem dX10_seek_1 : decode cX10_seek 1 = .ok (.getfield 205, 3) := by decide +kernel
theorem dX10_seek_4 : decode cX10_seek 4 = .ok (.iload_n 3, 1) := by decide +kernel
theorem dX10_seek_5 : decode cX10_seek 5 = .ok (.iconst (-1), 1) := by decide +kernel
theorem dX10_seek_6 : decode cX10_seek 6 = .ok (.if_icmp .eq 25, 3) := by decide +kernel
theorem dX10_seek_9 : decode cX10_seek 9 = .ok (.aload_n 0, 1) := by decide +kernel
theorem dX10_seek_10 : decode cX10_seek 10 = .ok (.getfield 56, 3) := by decide +kernel
theorem dX10_seek_13 : decode cX10_seek 13 = .ok (.iload_n 1, 1) := by decide +kernel
theorem dX10_seek_14 : decode cX10_seek 14 = .ok (.baload, 1) := by decide +kernel
theorem dX10_seek_15 : decode cX10_seek 15 = .ok (.ifCond .eq 16, 3) := by decide +kernel
theorem dX10_seek_18 : decode cX10_seek 18 = .ok (.aload_n 0, 1) := by decide +kernel
theorem dX10_seek_19 : decode cX10_seek 19 = .ok (.getfield 26, 3) := by decide +kernel
theorem dX10_seek_22 : decode cX10_seek 22 = .ok (.iload_n 3, 1) := by decide +kernel
theorem dX10_seek_23 : decode cX10_seek 23 = .ok (.iaload, 1) := by decide +kernel
theorem dX10_seek_24 : decode cX10_seek 24 = .ok (.ifCond .ne 7, 3) := by decide +kernel
theorem dX10_seek_27 : decode cX10_seek 27 = .ok (.iconst 1, 1) := by decide +kernel
theorem dX10_seek_28 : decode cX10_seek 28 = .ok (.goto 4, 3) := by decide +kernel
theorem dX10_seek_31 : decode cX10_seek 31 = .ok (.iconst 0, 1) := by decide +kernel
theorem dX10_seek_32 : decode cX10_seek 32 = .ok (.isub, 1) := by decide +kernel
theorem dX10_seek_33 : decode cX10_seek 33 = .ok (.istore 4, 2) := by decide +kernel
theorem dX10_seek_35 : decode cX10_seek 35 = .ok (.aload_n 0, 1) := by decide +kernel
theorem dX10_seek_36 : decode cX10_seek 36 = .ok (.getfield 68, 3) := by decide +kernel
theorem dX10_seek_39 : decode cX10_seek 39 = .ok (.iload_n 1, 1) := by decide +kernel
theorem dX10_seek_40 : decode cX10_seek 40 = .ok (.iaload, 1) := by decide +kernel
theorem dX10_seek_41 : decode cX10_seek 41 = .ok (.ifCond .lt 31, 3) := by decide +kernel
theorem dX10_seek_44 : decode cX10_seek 44 = .ok (.aload_n 0, 1) := by decide +kernel
theorem dX10_seek_45 : decode cX10_seek 45 = .ok (.iload_n 1, 1) := by decide +kernel
theorem dX10_seek_46 : decode cX10_seek 46 = .ok (.aload_n 0, 1) := by decide +kernel
theorem dX10_seek_47 : decode cX10_seek 47 = .ok (.getfield 68, 3) := by decide +kernel
theorem dX10_seek_50 : decode cX10_seek 50 = .ok (.iload_n 1, 1) := by decide +kernel
theorem dX10_seek_51 : decode cX10_seek 51 = .ok (.iaload, 1) := by decide +kernel
theorem dX10_seek_52 : decode cX10_seek 52 = .ok (.iload_n 2, 1) := by decide +kernel
theorem dX10_seek_53 : decode cX10_seek 53 = .ok (.iload 4, 2) := by decide +kernel
theorem dX10_seek_55 : decode cX10_seek 55 = .ok (.invokevirtual 253, 3) := by decide +kernel
theorem dX10_seek_58 : decode cX10_seek 58 = .ok (.ifCond .ne 12, 3) := by decide +kernel
theorem dX10_seek_61 : decode cX10_seek 61 = .ok (.aload_n 0, 1) := by decide +kernel
theorem dX10_seek_62 : decode cX10_seek 62 = .ok (.getfield 68, 3) := by decide +kernel
theorem dX10_seek_65 : decode cX10_seek 65 = .ok (.iload_n 1, 1) := by decide +kernel
theorem dX10_seek_66 : decode cX10_seek 66 = .ok (.iaload, 1) := by decide +kernel
theorem dX10_seek_67 : decode cX10_seek 67 = .ok (.goto 4, 3) := by decide +kernel
theorem dX10_seek_70 : decode cX10_seek 70 = .ok (.iconst (-1), 1) := by decide +kernel
theorem dX10_seek_71 : decode cX10_seek 71 = .ok (.ireturn, 1) := by decide +kernel
theorem dX10_seek_72 : decode cX10_seek 72 = .ok (.aload_n 0, 1) := by decide +kernel
theorem dX10_seek_73 : decode cX10_seek 73 = .ok (.getfield 160, 3) := by decide +kernel
theorem dX10_seek_76 : decode cX10_seek 76 = .ok (.istore 5, 2) := by decide +kernel
theorem dX10_seek_78 : decode cX10_seek 78 = .ok (.iconst 0, 1) := by decide +kernel
theorem dX10_seek_79 : decode cX10_seek 79 = .ok (.istore 6, 2) := by decide +kernel
theorem dX10_seek_81 : decode cX10_seek 81 = .ok (.iload 6, 2) := by decide +kernel
theorem dX10_seek_83 : decode cX10_seek 83 = .ok (.iload 5, 2) := by decide +kernel
theorem dX10_seek_85 : decode cX10_seek 85 = .ok (.if_icmp .ge 23, 3) := by decide +kernel
theorem dX10_seek_88 : decode cX10_seek 88 = .ok (.aload_n 0, 1) := by decide +kernel
theorem dX10_seek_89 : decode cX10_seek 89 = .ok (.getfield 138, 3) := by decide +kernel
theorem dX10_seek_92 : decode cX10_seek 92 = .ok (.iload 6, 2) := by decide +kernel
theorem dX10_seek_94 : decode cX10_seek 94 = .ok (.aload_n 0, 1) := by decide +kernel
theorem dX10_seek_95 : decode cX10_seek 95 = .ok (.getfield 53, 3) := by decide +kernel
theorem dX10_seek_98 : decode cX10_seek 98 = .ok (.iload 6, 2) := by decide +kernel
theorem dX10_seek_100 : decode cX10_seek 100 = .ok (.iaload, 1) := by decide +kernel
theorem dX10_seek_101 : decode cX10_seek 101 = .ok (.iastore, 1) := by decide +kernel
theorem dX10_seek_102 : decode cX10_seek 102 = .ok (.iinc 6 1, 3) := by decide +kernel
theorem dX10_seek_105 : decode cX10_seek 105 = .ok (.goto (-24), 3) := by decide +kernel
theorem dX10_seek_108 : decode cX10_seek 108 = .ok (.iconst 0, 1) := by decide +kernel
theorem dX10_seek_109 : decode cX10_seek 109 = .ok (.istore 6, 2) := by decide +kernel
theorem dX10_seek_111 : decode cX10_seek 111 = .ok (.iload 6, 2) := by decide +kernel
theorem dX10_seek_113 : decode cX10_seek 113 = .ok (.iload 5, 2) := by decide +kernel
theorem dX10_seek_115 : decode cX10_seek 115 = .ok (.if_icmp .ge 49, 3) := by decide +kernel
theorem dX10_seek_118 : decode cX10_seek 118 = .ok (.aload_n 0, 1) := by decide +kernel
theorem dX10_seek_119 : decode cX10_seek 119 = .ok (.getfield 138, 3) := by decide +kernel
theorem dX10_seek_122 : decode cX10_seek 122 = .ok (.iload 6, 2) := by decide +kernel
theorem dX10_seek_124 : decode cX10_seek 124 = .ok (.iaload, 1) := by decide +kernel
theorem dX10_seek_125 : decode cX10_seek 125 = .ok (.iload_n 3, 1) := by decide +kernel
theorem dX10_seek_126 : decode cX10_seek 126 = .ok (.if_icmp .ne 6, 3) := by decide +kernel
theorem dX10_seek_129 : decode cX10_seek 129 = .ok (.goto 29, 3) := by decide +kernel
theorem dX10_seek_132 : decode cX10_seek 132 = .ok (.aload_n 0, 1) := by decide +kernel
theorem dX10_seek_133 : decode cX10_seek 133 = .ok (.iload_n 1, 1) := by decide +kernel
theorem dX10_seek_134 : decode cX10_seek 134 = .ok (.aload_n 0, 1) := by decide +kernel
theorem dX10_seek_135 : decode cX10_seek 135 = .ok (.getfield 138, 3) := by decide +kernel
theorem dX10_seek_138 : decode cX10_seek 138 = .ok (.iload 6, 2) := by decide +kernel
theorem dX10_seek_140 : decode cX10_seek 140 = .ok (.iaload, 1) := by decide +kernel
theorem dX10_seek_141 : decode cX10_seek 141 = .ok (.iload_n 2, 1) := by decide +kernel
theorem dX10_seek_142 : decode cX10_seek 142 = .ok (.iload 4, 2) := by decide +kernel
theorem dX10_seek_144 : decode cX10_seek 144 = .ok (.invokevirtual 253, 3) := by decide +kernel
theorem dX10_seek_147 : decode cX10_seek 147 = .ok (.ifCond .ne 11, 3) := by decide +kernel
theorem dX10_seek_150 : decode cX10_seek 150 = .ok (.aload_n 0, 1) := by decide +kernel
theorem dX10_seek_151 : decode cX10_seek 151 = .ok (.getfield 138, 3) := by decide +kernel
theorem dX10_seek_154 : decode cX10_seek 154 = .ok (.iload 6, 2) := by decide +kernel
theorem dX10_seek_156 : decode cX10_seek 156 = .ok (.iaload, 1) := by decide +kernel
theorem dX10_seek_157 : decode cX10_seek 157 = .ok (.ireturn, 1) := by decide +kernel
theorem dX10_seek_158 : decode cX10_seek 158 = .ok (.iinc 6 1, 3) := by decide +kernel
theorem dX10_seek_161 : decode cX10_seek 161 = .ok (.goto (-50), 3) := by decide +kernel
theorem dX10_seek_164 : decode cX10_seek 164 = .ok (.iconst (-1), 1) := by decide +kernel
theorem dX10_seek_165 : decode cX10_seek 165 = .ok (.ireturn, 1) := by decide +kernel
theorem dX10_asks_0 : decode cX10_asks 0 = .ok (.aload_n 0, 1) := by decide +kernel
theorem dX10_asks_1 : decode cX10_asks 1 = .ok (.getfield 68, 3) := by decide +kernel
theorem dX10_asks_4 : decode cX10_asks 4 = .ok (.iload_n 1, 1) := by decide +kernel
theorem dX10_asks_5 : decode cX10_asks 5 = .ok (.iaload, 1) := by decide +kernel
theorem dX10_asks_6 : decode cX10_asks 6 = .ok (.ifCond .lt 16, 3) := by decide +kernel
theorem dX10_asks_9 : decode cX10_asks 9 = .ok (.aload_n 0, 1) := by decide +kernel
theorem dX10_asks_10 : decode cX10_asks 10 = .ok (.iload_n 2, 1) := by decide +kernel
theorem dX10_asks_11 : decode cX10_asks 11 = .ok (.invokevirtual 182, 3) := by decide +kernel
theorem dX10_asks_14 : decode cX10_asks 14 = .ok (.iconst (-1), 1) := by decide +kernel
theorem dX10_asks_15 : decode cX10_asks 15 = .ok (.if_icmp .ne 7, 3) := by decide +kernel
theorem dX10_asks_18 : decode cX10_asks 18 = .ok (.iconst 5, 1) := by decide +kernel
theorem dX10_asks_19 : decode cX10_asks 19 = .ok (.goto 67, 3) := by decide +kernel
theorem dX10_asks_22 : decode cX10_asks 22 = .ok (.aload_n 0, 1) := by decide +kernel
theorem dX10_asks_23 : decode cX10_asks 23 = .ok (.iload_n 2, 1) := by decide +kernel
theorem dX10_asks_24 : decode cX10_asks 24 = .ok (.iload_n 1, 1) := by decide +kernel
theorem dX10_asks_25 : decode cX10_asks 25 = .ok (.invokevirtual 257, 3) := by decide +kernel
theorem dX10_asks_28 : decode cX10_asks 28 = .ok (.ifCond .ne 7, 3) := by decide +kernel
theorem dX10_asks_31 : decode cX10_asks 31 = .ok (.iconst 1, 1) := by decide +kernel
theorem dX10_asks_32 : decode cX10_asks 32 = .ok (.goto 54, 3) := by decide +kernel
theorem dX10_asks_35 : decode cX10_asks 35 = .ok (.aload_n 0, 1) := by decide +kernel
theorem dX10_asks_36 : decode cX10_asks 36 = .ok (.getfield 23, 3) := by decide +kernel
theorem dX10_asks_39 : decode cX10_asks 39 = .ok (.sipush 400, 3) := by decide +kernel
theorem dX10_asks_42 : decode cX10_asks 42 = .ok (.iload_n 2, 1) := by decide +kernel
theorem dX10_asks_43 : decode cX10_asks 43 = .ok (.imul, 1) := by decide +kernel
theorem dX10_asks_44 : decode cX10_asks 44 = .ok (.iload_n 3, 1) := by decide +kernel
theorem dX10_asks_45 : decode cX10_asks 45 = .ok (.bipush 24, 2) := by decide +kernel
theorem dX10_asks_47 : decode cX10_asks 47 = .ok (.idiv, 1) := by decide +kernel
theorem dX10_asks_48 : decode cX10_asks 48 = .ok (.iadd, 1) := by decide +kernel
theorem dX10_asks_49 : decode cX10_asks 49 = .ok (.baload, 1) := by decide +kernel
theorem dX10_asks_50 : decode cX10_asks 50 = .ok (.ifCond .eq 7, 3) := by decide +kernel
theorem dX10_asks_53 : decode cX10_asks 53 = .ok (.iconst 2, 1) := by decide +kernel
theorem dX10_asks_54 : decode cX10_asks 54 = .ok (.goto 32, 3) := by decide +kernel
