theorem dX7_init_0 : decode cX7_init 0 = .ok (.aload_n 0, 1) := by decide +kernel
theorem dX7_init_1 : decode cX7_init 1 = .ok (.invokespecial 1, 3) := by decide +kernel
theorem dX7_init_4 : decode cX7_init 4 = .ok (.aload_n 0, 1) := by decide +kernel
theorem dX7_init_5 : decode cX7_init 5 = .ok (.iconst (-1), 1) := by decide +kernel
theorem dX7_init_6 : decode cX7_init 6 = .ok (.putfield 7, 3) := by decide +kernel
theorem dX7_init_9 : decode cX7_init 9 = .ok (.aload_n 0, 1) := by decide +kernel
theorem dX7_init_10 : decode cX7_init 10 = .ok (.bipush 8, 2) := by decide +kernel
theorem dX7_init_12 : decode cX7_init 12 = .ok (.newarray .int, 2) := by decide +kernel
theorem dX7_init_14 : decode cX7_init 14 = .ok (.putfield 13, 3) := by decide +kernel
theorem dX7_init_17 : decode cX7_init 17 = .ok (.aload_n 0, 1) := by decide +kernel
theorem dX7_init_18 : decode cX7_init 18 = .ok (.bipush 8, 2) := by decide +kernel
theorem dX7_init_20 : decode cX7_init 20 = .ok (.newarray .int, 2) := by decide +kernel
theorem dX7_init_22 : decode cX7_init 22 = .ok (.putfield 17, 3) := by decide +kernel
theorem dX7_init_25 : decode cX7_init 25 = .ok (.aload_n 0, 1) := by decide +kernel
theorem dX7_init_26 : decode cX7_init 26 = .ok (.bipush 8, 2) := by decide +kernel
theorem dX7_init_28 : decode cX7_init 28 = .ok (.newarray .int, 2) := by decide +kernel
theorem dX7_init_30 : decode cX7_init 30 = .ok (.putfield 20, 3) := by decide +kernel
theorem dX7_init_33 : decode cX7_init 33 = .ok (.aload_n 0, 1) := by decide +kernel
theorem dX7_init_34 : decode cX7_init 34 = .ok (.bipush 8, 2) := by decide +kernel
theorem dX7_init_36 : decode cX7_init 36 = .ok (.newarray .int, 2) := by decide +kernel
theorem dX7_init_38 : decode cX7_init 38 = .ok (.putfield 23, 3) := by decide +kernel
theorem dX7_init_41 : decode cX7_init 41 = .ok (.aload_n 0, 1) := by decide +kernel
theorem dX7_init_42 : decode cX7_init 42 = .ok (.bipush 8, 2) := by decide +kernel
theorem dX7_init_44 : decode cX7_init 44 = .ok (.newarray .int, 2) := by decide +kernel
theorem dX7_init_46 : decode cX7_init 46 = .ok (.putfield 26, 3) := by decide +kernel
theorem dX7_init_49 : decode cX7_init 49 = .ok (.aload_n 0, 1) := by decide +kernel
theorem dX7_init_50 : decode cX7_init 50 = .ok (.bipush 8, 2) := by decide +kernel
theorem dX7_init_52 : decode cX7_init 52 = .ok (.newarray .boolean, 2) := by decide +kernel
theorem dX7_init_54 : decode cX7_init 54 = .ok (.putfield 29, 3) := by decide +kernel
theorem dX7_init_57 : decode cX7_init 57 = .ok (.aload_n 0, 1) := by decide +kernel
theorem dX7_init_58 : decode cX7_init 58 = .ok (.bipush 8, 2) := by decide +kernel
theorem dX7_init_60 : decode cX7_init 60 = .ok (.newarray .int, 2) := by decide +kernel
theorem dX7_init_62 : decode cX7_init 62 = .ok (.putfield 33, 3) := by decide +kernel
theorem dX7_init_65 : decode cX7_init 65 = .ok (.aload_n 0, 1) := by decide +kernel
theorem dX7_init_66 : decode cX7_init 66 = .ok (.bipush 80, 2) := by decide +kernel
theorem dX7_init_68 : decode cX7_init 68 = .ok (.newarray .int, 2) := by decide +kernel
theorem dX7_init_70 : decode cX7_init 70 = .ok (.putfield 36, 3) := by decide +kernel
theorem dX7_init_73 : decode cX7_init 73 = .ok (.aload_n 0, 1) := by decide +kernel
theorem dX7_init_74 : decode cX7_init 74 = .ok (.bipush 80, 2) := by decide +kernel
theorem dX7_init_76 : decode cX7_init 76 = .ok (.newarray .int, 2) := by decide +kernel
theorem dX7_init_78 : decode cX7_init 78 = .ok (.putfield 39, 3) := by decide +kernel
theorem dX7_init_81 : decode cX7_init 81 = .ok (.aload_n 0, 1) := by decide +kernel
theorem dX7_init_82 : decode cX7_init 82 = .ok (.bipush 8, 2) := by decide +kernel
theorem dX7_init_84 : decode cX7_init 84 = .ok (.newarray .int, 2) := by decide +kernel
theorem dX7_init_86 : decode cX7_init 86 = .ok (.putfield 42, 3) := by decide +kernel
theorem dX7_init_89 : decode cX7_init 89 = .ok (.aload_n 0, 1) := by decide +kernel
theorem dX7_init_90 : decode cX7_init 90 = .ok (.bipush 8, 2) := by decide +kernel
theorem dX7_init_92 : decode cX7_init 92 = .ok (.newarray .int, 2) := by decide +kernel
theorem dX7_init_94 : decode cX7_init 94 = .ok (.putfield 45, 3) := by decide +kernel
theorem dX7_init_97 : decode cX7_init 97 = .ok (.aload_n 0, 1) := by decide +kernel
theorem dX7_init_98 : decode cX7_init 98 = .ok (.bipush 8, 2) := by decide +kernel
theorem dX7_init_100 : decode cX7_init 100 = .ok (.newarray .int, 2) := by decide +kernel
theorem dX7_init_102 : decode cX7_init 102 = .ok (.putfield 48, 3) := by decide +kernel
theorem dX7_init_105 : decode cX7_init 105 = .ok (.aload_n 0, 1) := by decide +kernel
theorem dX7_init_106 : decode cX7_init 106 = .ok (.bipush 8, 2) := by decide +kernel
theorem dX7_init_108 : decode cX7_init 108 = .ok (.newarray .int, 2) := by decide +kernel
theorem dX7_init_110 : decode cX7_init 110 = .ok (.putfield 51, 3) := by decide +kernel
theorem dX7_init_113 : decode cX7_init 113 = .ok (.aload_n 0, 1) := by decide +kernel
theorem dX7_init_114 : decode cX7_init 114 = .ok (.bipush 8, 2) := by decide +kernel
theorem dX7_init_116 : decode cX7_init 116 = .ok (.newarray .int, 2) := by decide +kernel
theorem dX7_init_118 : decode cX7_init 118 = .ok (.putfield 54, 3) := by decide +kernel
theorem dX7_init_121 : decode cX7_init 121 = .ok (.aload_n 0, 1) := by decide +kernel
theorem dX7_init_122 : decode cX7_init 122 = .ok (.bipush 8, 2) := by decide +kernel
theorem dX7_init_124 : decode cX7_init 124 = .ok (.newarray .int, 2) := by decide +kernel
theorem dX7_init_126 : decode cX7_init 126 = .ok (.putfield 57, 3) := by decide +kernel
theorem dX7_init_129 : decode cX7_init 129 = .ok (.aload_n 0, 1) := by decide +kernel
theorem dX7_init_130 : decode cX7_init 130 = .ok (.bipush 8, 2) := by decide +kernel
theorem dX7_init_132 : decode cX7_init 132 = .ok (.newarray .int, 2) := by decide +kernel
theorem dX7_init_134 : decode cX7_init 134 = .ok (.putfield 60, 3) := by decide +kernel
theorem dX7_init_137 : decode cX7_init 137 = .ok (.aload_n 0, 1) := by decide +kernel
theorem dX7_init_138 : decode cX7_init 138 = .ok (.bipush 8, 2) := by decide +kernel
theorem dX7_init_140 : decode cX7_init 140 = .ok (.newarray .int, 2) := by decide +kernel
theorem dX7_init_142 : decode cX7_init 142 = .ok (.putfield 63, 3) := by decide +kernel
theorem dX7_init_145 : decode cX7_init 145 = .ok (.aload_n 0, 1) := by decide +kernel
theorem dX7_init_146 : decode cX7_init 146 = .ok (.bipush 8, 2) := by decide +kernel
theorem dX7_init_148 : decode cX7_init 148 = .ok (.newarray .int, 2) := by decide +kernel
theorem dX7_init_150 : decode cX7_init 150 = .ok (.putfield 66, 3) := by decide +kernel
theorem dX7_init_153 : decode cX7_init 153 = .ok (.aload_n 0, 1) := by decide +kernel
theorem dX7_init_154 : decode cX7_init 154 = .ok (.bipush 8, 2) := by decide +kernel
theorem dX7_init_156 : decode cX7_init 156 = .ok (.newarray .int, 2) := by decide +kernel
theorem dX7_init_158 : decode cX7_init 158 = .ok (.putfield 69, 3) := by decide +kernel
theorem dX7_init_161 : decode cX7_init 161 = .ok (.aload_n 0, 1) := by decide +kernel
theorem dX7_init_162 : decode cX7_init 162 = .ok (.bipush 8, 2) := by decide +kernel
theorem dX7_init_164 : decode cX7_init 164 = .ok (.newarray .int, 2) := by decide +kernel
theorem dX7_init_166 : decode cX7_init 166 = .ok (.putfield 72, 3) := by decide +kernel
theorem dX7_init_169 : decode cX7_init 169 = .ok (.aload_n 0, 1) := by decide +kernel
theorem dX7_init_170 : decode cX7_init 170 = .ok (.bipush 8, 2) := by decide +kernel
theorem dX7_init_172 : decode cX7_init 172 = .ok (.newarray .int, 2) := by decide +kernel
theorem dX7_init_174 : decode cX7_init 174 = .ok (.putfield 75, 3) := by decide +kernel
theorem dX7_init_177 : decode cX7_init 177 = .ok (.aload_n 0, 1) := by decide +kernel
theorem dX7_init_178 : decode cX7_init 178 = .ok (.bipush 8, 2) := by decide +kernel
theorem dX7_init_180 : decode cX7_init 180 = .ok (.newarray .int, 2) := by decide +kernel
theorem dX7_init_182 : decode cX7_init 182 = .ok (.putfield 78, 3) := by decide +kernel
theorem dX7_init_185 : decode cX7_init 185 = .ok (.aload_n 0, 1) := by decide +kernel
theorem dX7_init_186 : decode cX7_init 186 = .ok (.bipush 8, 2) := by decide +kernel
theorem dX7_init_188 : decode cX7_init 188 = .ok (.newarray .int, 2) := by decide +kernel
theorem dX7_init_190 : decode cX7_init 190 = .ok (.putfield 81, 3) := by decide +kernel
theorem dX7_init_193 : decode cX7_init 193 = .ok (.aload_n 0, 1) := by decide +kernel
theorem dX7_init_194 : decode cX7_init 194 = .ok (.bipush 8, 2) := by decide +kernel
theorem dX7_init_196 : decode cX7_init 196 = .ok (.newarray .int, 2) := by decide +kernel
theorem dX7_init_198 : decode cX7_init 198 = .ok (.putfield 84, 3) := by decide +kernel
theorem dX7_init_201 : decode cX7_init 201 = .ok (.aload_n 0, 1) := by decide +kernel
theorem dX7_init_202 : decode cX7_init 202 = .ok (.iconst 4, 1) := by decide +kernel
theorem dX7_init_203 : decode cX7_init 203 = .ok (.newarray .int, 2) := by decide +kernel
theorem dX7_init_205 : decode cX7_init 205 = .ok (.putfield 87, 3) := by decide +kernel
theorem dX7_init_208 : decode cX7_init 208 = .ok (.aload_n 0, 1) := by decide +kernel
theorem dX7_init_209 : decode cX7_init 209 = .ok (.iconst 4, 1) := by decide +kernel
theorem dX7_init_210 : decode cX7_init 210 = .ok (.newarray .int, 2) := by decide +kernel
theorem dX7_init_212 : decode cX7_init 212 = .ok (.putfield 90, 3) := by decide +kernel
theorem dX7_init_215 : decode cX7_init 215 = .ok (.aload_n 0, 1) := by decide +kernel
theorem dX7_init_216 : decode cX7_init 216 = .ok (.iconst 4, 1) := by decide +kernel
theorem dX7_init_217 : decode cX7_init 217 = .ok (.newarray .int, 2) := by decide +kernel
theorem dX7_init_219 : decode cX7_init 219 = .ok (.putfield 93, 3) := by decide +kernel
theorem dX7_init_222 : decode cX7_init 222 = .ok (.aload_n 0, 1) := by decide +kernel
theorem dX7_init_223 : decode cX7_init 223 = .ok (.bipush 40, 2) := by decide +kernel
theorem dX7_init_225 : decode cX7_init 225 = .ok (.newarray .int, 2) := by decide +kernel
theorem dX7_init_227 : decode cX7_init 227 = .ok (.putfield 96, 3) := by decide +kernel
theorem dX7_init_230 : decode cX7_init 230 = .ok (.aload_n 0, 1) := by decide +kernel
theorem dX7_init_231 : decode cX7_init 231 = .ok (.bipush 40, 2) := by decide +kernel
theorem dX7_init_233 : decode cX7_init 233 = .ok (.newarray .int, 2) := by decide +kernel
theorem dX7_init_235 : decode cX7_init 235 = .ok (.putfield 99, 3) := by decide +kernel
theorem dX7_init_238 : decode cX7_init 238 = .ok (.aload_n 0, 1) := by decide +kernel
theorem dX7_init_239 : decode cX7_init 239 = .ok (.bipush 40, 2) := by decide +kernel
theorem dX7_init_241 : decode cX7_init 241 = .ok (.newarray .int, 2) := by decide +kernel
theorem dX7_init_243 : decode cX7_init 243 = .ok (.putfield 102, 3) := by decide +kernel
theorem dX7_init_246 : decode cX7_init 246 = .ok (.aload_n 0, 1) := by decide +kernel
theorem dX7_init_247 : decode cX7_init 247 = .ok (.iload_n 1, 1) := by decide +kernel
theorem dX7_init_248 : decode cX7_init 248 = .ok (.ifCond .eq 7, 3) := by decide +kernel
theorem dX7_init_251 : decode cX7_init 251 = .ok (.iconst 1, 1) := by decide +kernel
theorem dX7_init_252 : decode cX7_init 252 = .ok (.goto 4, 3) := by decide +kernel
theorem dX7_init_255 : decode cX7_init 255 = .ok (.iconst 0, 1) := by decide +kernel
theorem dX7_init_256 : decode cX7_init 256 = .ok (.putfield 105, 3) := by decide +kernel
theorem dX7_init_259 : decode cX7_init 259 = .ok (.return_, 1) := by decide +kernel
theorem dX7_thrown_0 : decode cX7_thrown 0 = .ok (.aload_n 0, 1) := by decide +kernel
theorem dX7_thrown_1 : decode cX7_thrown 1 = .ok (.getfield 109, 3) := by decide +kernel
theorem dX7_thrown_4 : decode cX7_thrown 4 = .ok (.ireturn, 1) := by decide +kernel
theorem dX7_in_0 : decode cX7_in 0 = .ok (.iload_n 0, 1) := by decide +kernel
theorem dX7_in_1 : decode cX7_in 1 = .ok (.iload_n 1, 1) := by decide +kernel
theorem dX7_in_2 : decode cX7_in 2 = .ok (.if_icmp .lt 12, 3) := by decide +kernel
theorem dX7_in_5 : decode cX7_in 5 = .ok (.iload_n 0, 1) := by decide +kernel
theorem dX7_in_6 : decode cX7_in 6 = .ok (.iload_n 2, 1) := by decide +kernel
theorem dX7_in_7 : decode cX7_in 7 = .ok (.if_icmp .gt 7, 3) := by decide +kernel
theorem dX7_in_10 : decode cX7_in 10 = .ok (.iconst 1, 1) := by decide +kernel
theorem dX7_in_11 : decode cX7_in 11 = .ok (.goto 4, 3) := by decide +kernel
theorem dX7_in_14 : decode cX7_in 14 = .ok (.iconst 0, 1) := by decide +kernel
theorem dX7_in_15 : decode cX7_in 15 = .ok (.ireturn, 1) := by decide +kernel
theorem dX7_isTask_0 : decode cX7_isTask 0 = .ok (.iload_n 1, 1) := by decide +kernel
theorem dX7_isTask_1 : decode cX7_isTask 1 = .ok (.ifCond .lt 15, 3) := by decide +kernel
theorem dX7_isTask_4 : decode cX7_isTask 4 = .ok (.iload_n 1, 1) := by decide +kernel
theorem dX7_isTask_5 : decode cX7_isTask 5 = .ok (.aload_n 0, 1) := by decide +kernel
theorem dX7_isTask_6 : decode cX7_isTask 6 = .ok (.getfield 112, 3) := by decide +kernel
theorem dX7_isTask_9 : decode cX7_isTask 9 = .ok (.if_icmp .ge 7, 3) := by decide +kernel
theorem dX7_isTask_12 : decode cX7_isTask 12 = .ok (.iconst 1, 1) := by decide +kernel
theorem dX7_isTask_13 : decode cX7_isTask 13 = .ok (.goto 4, 3) := by decide +kernel
theorem dX7_isTask_16 : decode cX7_isTask 16 = .ok (.iconst 0, 1) := by decide +kernel
theorem dX7_isTask_17 : decode cX7_isTask 17 = .ok (.ireturn, 1) := by decide +kernel
theorem dX7_task_0 : decode cX7_task 0 = .ok (.iload_n 1, 1) := by decide +kernel
theorem dX7_task_1 : decode cX7_task 1 = .ok (.iconst 1, 1) := by decide +kernel
theorem dX7_task_2 : decode cX7_task 2 = .ok (.bipush 31, 2) := by decide +kernel
theorem dX7_task_4 : decode cX7_task 4 = .ok (.invokestatic 115, 3) := by decide +kernel
theorem dX7_task_7 : decode cX7_task 7 = .ok (.ifCond .eq 56, 3) := by decide +kernel
theorem dX7_task_10 : decode cX7_task 10 = .ok (.iload_n 2, 1) := by decide +kernel
theorem dX7_task_11 : decode cX7_task 11 = .ok (.ifCond .eq 14, 3) := by decide +kernel
theorem dX7_task_14 : decode cX7_task 14 = .ok (.iload_n 2, 1) := by decide +kernel
theorem dX7_task_15 : decode cX7_task 15 = .ok (.iconst 2, 1) := by decide +kernel
theorem dX7_task_16 : decode cX7_task 16 = .ok (.sipush 200, 3) := by decide +kernel
theorem dX7_task_19 : decode cX7_task 19 = .ok (.invokestatic 115, 3) := by decide +kernel
theorem dX7_task_22 : decode cX7_task 22 = .ok (.ifCond .eq 41, 3) := by decide +kernel
theorem dX7_task_25 : decode cX7_task 25 = .ok (.iload_n 3, 1) := by decide +kernel
theorem dX7_task_26 : decode cX7_task 26 = .ok (.iconst 0, 1) := by decide +kernel
theorem dX7_task_27 : decode cX7_task 27 = .ok (.bipush 50, 2) := by decide +kernel
theorem dX7_task_29 : decode cX7_task 29 = .ok (.invokestatic 115, 3) := by decide +kernel
theorem dX7_task_32 : decode cX7_task 32 = .ok (.ifCond .eq 31, 3) := by decide +kernel
theorem dX7_task_35 : decode cX7_task 35 = .ok (.iload 4, 2) := by decide +kernel
theorem dX7_task_37 : decode cX7_task 37 = .ok (.iconst 1, 1) := by decide +kernel
theorem dX7_task_38 : decode cX7_task 38 = .ok (.sipush 200, 3) := by decide +kernel
theorem dX7_task_41 : decode cX7_task 41 = .ok (.invokestatic 115, 3) := by decide +kernel
theorem dX7_task_44 : decode cX7_task 44 = .ok (.ifCond .eq 19, 3) := by decide +kernel
theorem dX7_task_47 : decode cX7_task 47 = .ok (.iload 5, 2) := by decide +kernel
theorem dX7_task_49 : decode cX7_task 49 = .ok (.iconst 1, 1) := by decide +kernel
theorem dX7_task_50 : decode cX7_task 50 = .ok (.sipush 200, 3) := by decide +kernel
theorem dX7_task_53 : decode cX7_task 53 = .ok (.invokestatic 115, 3) := by decide +kernel
theorem dX7_task_56 : decode cX7_task 56 = .ok (.ifCond .eq 7, 3) := by decide +kernel
theorem dX7_task_59 : decode cX7_task 59 = .ok (.iconst 1, 1) := by decide +kernel
theorem dX7_task_60 : decode cX7_task 60 = .ok (.goto 4, 3) := by decide +kernel
theorem dX7_task_63 : decode cX7_task 63 = .ok (.iconst 0, 1) := by decide +kernel
theorem dX7_task_64 : decode cX7_task 64 = .ok (.istore 6, 2) := by decide +kernel
theorem dX7_task_66 : decode cX7_task 66 = .ok (.aload_n 0, 1) := by decide +kernel
theorem dX7_task_67 : decode cX7_task 67 = .ok (.iload 6, 2) := by decide +kernel
theorem dX7_task_69 : decode cX7_task 69 = .ok (.ifCond .ne 7, 3) := by decide +kernel
theorem dX7_task_72 : decode cX7_task 72 = .ok (.iconst 1, 1) := by decide +kernel
theorem dX7_task_73 : decode cX7_task 73 = .ok (.goto 24, 3) := by decide +kernel
theorem dX7_task_76 : decode cX7_task 76 = .ok (.aload_n 0, 1) := by decide +kernel
theorem dX7_task_77 : decode cX7_task 77 = .ok (.getfield 119, 3) := by decide +kernel
theorem dX7_task_80 : decode cX7_task 80 = .ok (.ifCond .ne 12, 3) := by decide +kernel
theorem dX7_task_83 : decode cX7_task 83 = .ok (.aload_n 0, 1) := by decide +kernel
theorem dX7_task_84 : decode cX7_task 84 = .ok (.getfield 112, 3) := by decide +kernel
theorem dX7_task_87 : decode cX7_task 87 = .ok (.bipush 8, 2) := by decide +kernel
theorem dX7_task_89 : decode cX7_task 89 = .ok (.if_icmp .ne 7, 3) := by decide +kernel
theorem dX7_task_92 : decode cX7_task 92 = .ok (.iconst 2, 1) := by decide +kernel
theorem dX7_task_93 : decode cX7_task 93 = .ok (.goto 4, 3) := by decide +kernel
theorem dX7_task_96 : decode cX7_task 96 = .ok (.iconst 0, 1) := by decide +kernel
theorem dX7_task_97 : decode cX7_task 97 = .ok (.putfield 109, 3) := by decide +kernel
theorem dX7_task_100 : decode cX7_task 100 = .ok (.aload_n 0, 1) := by decide +kernel
theorem dX7_task_101 : decode cX7_task 101 = .ok (.getfield 109, 3) := by decide +kernel
theorem dX7_task_104 : decode cX7_task 104 = .ok (.ifCond .le 5, 3) := by decide +kernel
theorem dX7_task_107 : decode cX7_task 107 = .ok (.iconst 0, 1) := by decide +kernel
theorem dX7_task_108 : decode cX7_task 108 = .ok (.ireturn, 1) := by decide +kernel
theorem dX7_task_109 : decode cX7_task 109 = .ok (.aload_n 0, 1) := by decide +kernel
theorem dX7_task_110 : decode cX7_task 110 = .ok (.getfield 13, 3) := by decide +kernel
theorem dX7_task_113 : decode cX7_task 113 = .ok (.aload_n 0, 1) := by decide +kernel
theorem dX7_task_114 : decode cX7_task 114 = .ok (.getfield 112, 3) := by decide +kernel
theorem dX7_task_117 : decode cX7_task 117 = .ok (.iload_n 1, 1) := by decide +kernel
theorem dX7_task_118 : decode cX7_task 118 = .ok (.iastore, 1) := by decide +kernel
theorem dX7_task_119 : decode cX7_task 119 = .ok (.aload_n 0, 1) := by decide +kernel
theorem dX7_task_120 : decode cX7_task 120 = .ok (.getfield 17, 3) := by decide +kernel
theorem dX7_task_123 : decode cX7_task 123 = .ok (.aload_n 0, 1) := by decide +kernel
theorem dX7_task_124 : decode cX7_task 124 = .ok (.getfield 112, 3) := by decide +kernel
theorem dX7_task_127 : decode cX7_task 127 = .ok (.iload_n 2, 1) := by decide +kernel
theorem dX7_task_128 : decode cX7_task 128 = .ok (.iastore, 1) := by decide +kernel
theorem dX7_task_129 : decode cX7_task 129 = .ok (.aload_n 0, 1) := by decide +kernel
theorem dX7_task_130 : decode cX7_task 130 = .ok (.getfield 20, 3) := by decide +kernel
theorem dX7_task_133 : decode cX7_task 133 = .ok (.aload_n 0, 1) := by decide +kernel
theorem dX7_task_134 : decode cX7_task 134 = .ok (.getfield 112, 3) := by decide +kernel
theorem dX7_task_137 : decode cX7_task 137 = .ok (.iload_n 3, 1) := by decide +kernel
theorem dX7_task_138 : decode cX7_task 138 = .ok (.iastore, 1) := by decide +kernel
theorem dX7_task_139 : decode cX7_task 139 = .ok (.aload_n 0, 1) := by decide +kernel
theorem dX7_task_140 : decode cX7_task 140 = .ok (.getfield 23, 3) := by decide +kernel
theorem dX7_task_143 : decode cX7_task 143 = .ok (.aload_n 0, 1) := by decide +kernel
theorem dX7_task_144 : decode cX7_task 144 = .ok (.getfield 112, 3) := by decide +kernel
theorem dX7_task_147 : decode cX7_task 147 = .ok (.iload 4, 2) := by decide +kernel
theorem dX7_task_149 : decode cX7_task 149 = .ok (.iastore, 1) := by decide +kernel
theorem dX7_task_150 : decode cX7_task 150 = .ok (.aload_n 0, 1) := by decide +kernel
theorem dX7_task_151 : decode cX7_task 151 = .ok (.getfield 26, 3) := by decide +kernel
theorem dX7_task_154 : decode cX7_task 154 = .ok (.aload_n 0, 1) := by decide +kernel
theorem dX7_task_155 : decode cX7_task 155 = .ok (.getfield 112, 3) := by decide +kernel
theorem dX7_task_158 : decode cX7_task 158 = .ok (.iload 5, 2) := by decide +kernel
theorem dX7_task_160 : decode cX7_task 160 = .ok (.iastore, 1) := by decide +kernel
theorem dX7_task_161 : decode cX7_task 161 = .ok (.aload_n 0, 1) := by decide +kernel
theorem dX7_task_162 : decode cX7_task 162 = .ok (.getfield 60, 3) := by decide +kernel
theorem dX7_task_165 : decode cX7_task 165 = .ok (.aload_n 0, 1) := by decide +kernel
theorem dX7_task_166 : decode cX7_task 166 = .ok (.getfield 112, 3) := by decide +kernel
theorem dX7_task_169 : decode cX7_task 169 = .ok (.iconst (-1), 1) := by decide +kernel
theorem dX7_task_170 : decode cX7_task 170 = .ok (.iastore, 1) := by decide +kernel
theorem dX7_task_171 : decode cX7_task 171 = .ok (.aload_n 0, 1) := by decide +kernel
theorem dX7_task_172 : decode cX7_task 172 = .ok (.dup, 1) := by decide +kernel
theorem dX7_task_173 : decode cX7_task 173 = .ok (.getfield 112, 3) := by decide +kernel
theorem dX7_task_176 : decode cX7_task 176 = .ok (.iconst 1, 1) := by decide +kernel
theorem dX7_task_177 : decode cX7_task 177 = .ok (.iadd, 1) := by decide +kernel
theorem dX7_task_178 : decode cX7_task 178 = .ok (.putfield 112, 3) := by decide +kernel
theorem dX7_task_181 : decode cX7_task 181 = .ok (.aload_n 0, 1) := by decide +kernel
theorem dX7_task_182 : decode cX7_task 182 = .ok (.getfield 112, 3) := by decide +kernel
theorem dX7_task_185 : decode cX7_task 185 = .ok (.iconst 1, 1) := by decide +kernel
theorem dX7_task_186 : decode cX7_task 186 = .ok (.isub, 1) := by decide +kernel
theorem dX7_task_187 : decode cX7_task 187 = .ok (.ireturn, 1) := by decide +kernel
theorem dX7_strict_0 : decode cX7_strict 0 = .ok (.aload_n 0, 1) := by decide +kernel
theorem dX7_strict_1 : decode cX7_strict 1 = .ok (.iconst 0, 1) := by decide +kernel
theorem dX7_strict_2 : decode cX7_strict 2 = .ok (.putfield 109, 3) := by decide +kernel
theorem dX7_strict_5 : decode cX7_strict 5 = .ok (.aload_n 0, 1) := by decide +kernel
theorem dX7_strict_6 : decode cX7_strict 6 = .ok (.iload_n 1, 1) := by decide +kernel
theorem dX7_strict_7 : decode cX7_strict 7 = .ok (.invokevirtual 122, 3) := by decide +kernel
theorem dX7_strict_10 : decode cX7_strict 10 = .ok (.ifCond .ne 5, 3) := by decide +kernel
theorem dX7_strict_13 : decode cX7_strict 13 = .ok (.iconst 0, 1) := by decide +kernel
theorem dX7_strict_14 : decode cX7_strict 14 = .ok (.ireturn, 1) := by decide +kernel
theorem dX7_strict_15 : decode cX7_strict 15 = .ok (.aload_n 0, 1) := by decide +kernel
theorem dX7_strict_16 : decode cX7_strict 16 = .ok (.getfield 29, 3) := by decide +kernel
theorem dX7_strict_19 : decode cX7_strict 19 = .ok (.iload_n 1, 1) := by decide +kernel
theorem dX7_strict_20 : decode cX7_strict 20 = .ok (.iload_n 2, 1) := by decide +kernel
theorem dX7_strict_21 : decode cX7_strict 21 = .ok (.bastore, 1) := by decide +kernel
theorem dX7_strict_22 : decode cX7_strict 22 = .ok (.iconst 1, 1) := by decide +kernel
theorem dX7_strict_23 : decode cX7_strict 23 = .ok (.ireturn, 1) := by decide +kernel
theorem dX7_mutex_0 : decode cX7_mutex 0 = .ok (.iload_n 1, 1) := by decide +kernel
theorem dX7_mutex_1 : decode cX7_mutex 1 = .ok (.iconst 0, 1) := by decide +kernel
theorem dX7_mutex_2 : decode cX7_mutex 2 = .ok (.iconst 2, 1) := by decide +kernel
theorem dX7_mutex_3 : decode cX7_mutex 3 = .ok (.invokestatic 115, 3) := by decide +kernel
theorem dX7_mutex_6 : decode cX7_mutex 6 = .ok (.ifCond .eq 22, 3) := by decide +kernel
theorem dX7_mutex_9 : decode cX7_mutex 9 = .ok (.iload_n 1, 1) := by decide +kernel
theorem dX7_mutex_10 : decode cX7_mutex 10 = .ok (.iconst 2, 1) := by decide +kernel
theorem dX7_mutex_11 : decode cX7_mutex 11 = .ok (.if_icmp .lt 13, 3) := by decide +kernel
theorem dX7_mutex_14 : decode cX7_mutex 14 = .ok (.iload_n 2, 1) := by decide +kernel
theorem dX7_mutex_15 : decode cX7_mutex 15 = .ok (.iconst 1, 1) := by decide +kernel
theorem dX7_mutex_16 : decode cX7_mutex 16 = .ok (.bipush 31, 2) := by decide +kernel
theorem dX7_mutex_18 : decode cX7_mutex 18 = .ok (.invokestatic 115, 3) := by decide +kernel
theorem dX7_mutex_21 : decode cX7_mutex 21 = .ok (.ifCond .eq 7, 3) := by decide +kernel
theorem dX7_mutex_24 : decode cX7_mutex 24 = .ok (.iconst 1, 1) := by decide +kernel
theorem dX7_mutex_25 : decode cX7_mutex 25 = .ok (.goto 4, 3) := by decide +kernel
theorem dX7_mutex_28 : decode cX7_mutex 28 = .ok (.iconst 0, 1) := by decide +kernel
theorem dX7_mutex_29 : decode cX7_mutex 29 = .ok (.istore_n 3, 1) := by decide +kernel
theorem dX7_mutex_30 : decode cX7_mutex 30 = .ok (.aload_n 0, 1) := by decide +kernel
theorem dX7_mutex_31 : decode cX7_mutex 31 = .ok (.iload_n 3, 1) := by decide +kernel
theorem dX7_mutex_32 : decode cX7_mutex 32 = .ok (.ifCond .ne 7, 3) := by decide +kernel
theorem dX7_mutex_35 : decode cX7_mutex 35 = .ok (.iconst 1, 1) := by decide +kernel
theorem dX7_mutex_36 : decode cX7_mutex 36 = .ok (.goto 23, 3) := by decide +kernel
theorem dX7_mutex_39 : decode cX7_mutex 39 = .ok (.aload_n 0, 1) := by decide +kernel
theorem dX7_mutex_40 : decode cX7_mutex 40 = .ok (.getfield 119, 3) := by decide +kernel
theorem dX7_mutex_43 : decode cX7_mutex 43 = .ok (.ifCond .ne 11, 3) := by decide +kernel
theorem dX7_mutex_46 : decode cX7_mutex 46 = .ok (.aload_n 0, 1) := by decide +kernel
theorem dX7_mutex_47 : decode cX7_mutex 47 = .ok (.getfield 126, 3) := by decide +kernel
theorem dX7_mutex_50 : decode cX7_mutex 50 = .ok (.iconst 4, 1) := by decide +kernel
theorem dX7_mutex_51 : decode cX7_mutex 51 = .ok (.if_icmp .ne 7, 3) := by decide +kernel
theorem dX7_mutex_54 : decode cX7_mutex 54 = .ok (.iconst 2, 1) := by decide +kernel
theorem dX7_mutex_55 : decode cX7_mutex 55 = .ok (.goto 4, 3) := by decide +kernel
theorem dX7_mutex_58 : decode cX7_mutex 58 = .ok (.iconst 0, 1) := by decide +kernel
theorem dX7_mutex_59 : decode cX7_mutex 59 = .ok (.putfield 109, 3) := by decide +kernel
theorem dX7_mutex_62 : decode cX7_mutex 62 = .ok (.aload_n 0, 1) := by decide +kernel
theorem dX7_mutex_63 : decode cX7_mutex 63 = .ok (.getfield 109, 3) := by decide +kernel
theorem dX7_mutex_66 : decode cX7_mutex 66 = .ok (.ifCond .le 5, 3) := by decide +kernel
theorem dX7_mutex_69 : decode cX7_mutex 69 = .ok (.iconst 0, 1) := by decide +kernel
theorem dX7_mutex_70 : decode cX7_mutex 70 = .ok (.ireturn, 1) := by decide +kernel
theorem dX7_mutex_71 : decode cX7_mutex 71 = .ok (.aload_n 0, 1) := by decide +kernel
theorem dX7_mutex_72 : decode cX7_mutex 72 = .ok (.getfield 87, 3) := by decide +kernel
theorem dX7_mutex_75 : decode cX7_mutex 75 = .ok (.aload_n 0, 1) := by decide +kernel
theorem dX7_mutex_76 : decode cX7_mutex 76 = .ok (.getfield 126, 3) := by decide +kernel
theorem dX7_mutex_79 : decode cX7_mutex 79 = .ok (.iload_n 1, 1) := by decide +kernel
theorem dX7_mutex_80 : decode cX7_mutex 80 = .ok (.iastore, 1) := by decide +kernel
theorem dX7_mutex_81 : decode cX7_mutex 81 = .ok (.aload_n 0, 1) := by decide +kernel
theorem dX7_mutex_82 : decode cX7_mutex 82 = .ok (.getfield 90, 3) := by decide +kernel
theorem dX7_mutex_85 : decode cX7_mutex 85 = .ok (.aload_n 0, 1) := by decide +kernel
theorem dX7_mutex_86 : decode cX7_mutex 86 = .ok (.getfield 126, 3) := by decide +kernel
theorem dX7_mutex_89 : decode cX7_mutex 89 = .ok (.iload_n 2, 1) := by decide +kernel
theorem dX7_mutex_90 : decode cX7_mutex 90 = .ok (.iastore, 1) := by decide +kernel
theorem dX7_mutex_91 : decode cX7_mutex 91 = .ok (.aload_n 0, 1) := by decide +kernel
theorem dX7_mutex_92 : decode cX7_mutex 92 = .ok (.getfield 93, 3) := by decide +kernel
theorem dX7_mutex_95 : decode cX7_mutex 95 = .ok (.aload_n 0, 1) := by decide +kernel
theorem dX7_mutex_96 : decode cX7_mutex 96 = .ok (.getfield 126, 3) := by decide +kernel
theorem dX7_mutex_99 : decode cX7_mutex 99 = .ok (.iconst (-1), 1) := by decide +kernel
theorem dX7_mutex_100 : decode cX7_mutex 100 = .ok (.iastore, 1) := by decide +kernel
theorem dX7_mutex_101 : decode cX7_mutex 101 = .ok (.aload_n 0, 1) := by decide +kernel
theorem dX7_mutex_102 : decode cX7_mutex 102 = .ok (.dup, 1) := by decide +kernel
theorem dX7_mutex_103 : decode cX7_mutex 103 = .ok (.getfield 126, 3) := by decide +kernel
theorem dX7_mutex_106 : decode cX7_mutex 106 = .ok (.iconst 1, 1) := by decide +kernel
theorem dX7_mutex_107 : decode cX7_mutex 107 = .ok (.iadd, 1) := by decide +kernel
theorem dX7_mutex_108 : decode cX7_mutex 108 = .ok (.putfield 126, 3) := by decide +kernel
theorem dX7_mutex_111 : decode cX7_mutex 111 = .ok (.aload_n 0, 1) := by decide +kernel
theorem dX7_mutex_112 : decode cX7_mutex 112 = .ok (.getfield 126, 3) := by decide +kernel
theorem dX7_mutex_115 : decode cX7_mutex 115 = .ok (.iconst 1, 1) := by decide +kernel
theorem dX7_mutex_116 : decode cX7_mutex 116 = .ok (.isub, 1) := by decide +kernel
theorem dX7_mutex_117 : decode cX7_mutex 117 = .ok (.ireturn, 1) := by decide +kernel
theorem dX7_step_0 : decode cX7_step 0 = .ok (.aload_n 0, 1) := by decide +kernel
theorem dX7_step_1 : decode cX7_step 1 = .ok (.iload_n 1, 1) := by decide +kernel
theorem dX7_step_2 : decode cX7_step 2 = .ok (.invokevirtual 122, 3) := by decide +kernel
theorem dX7_step_5 : decode cX7_step 5 = .ok (.ifCond .eq 45, 3) := by decide +kernel
theorem dX7_step_8 : decode cX7_step 8 = .ok (.iload_n 2, 1) := by decide +kernel
theorem dX7_step_9 : decode cX7_step 9 = .ok (.ifCond .ne 16, 3) := by decide +kernel
theorem dX7_step_12 : decode cX7_step 12 = .ok (.iload_n 3, 1) := by decide +kernel
theorem dX7_step_13 : decode cX7_step 13 = .ok (.iconst 1, 1) := by decide +kernel
theorem dX7_step_14 : decode cX7_step 14 = .ok (.bipush 20, 2) := by decide +kernel
theorem dX7_step_16 : decode cX7_step 16 = .ok (.invokestatic 115, 3) := by decide +kernel
theorem dX7_step_19 : decode cX7_step 19 = .ok (.ifCond .eq 31, 3) := by decide +kernel
theorem dX7_step_22 : decode cX7_step 22 = .ok (.goto 24, 3) := by decide +kernel
theorem dX7_step_25 : decode cX7_step 25 = .ok (.iload_n 2, 1) := by decide +kernel
theorem dX7_step_26 : decode cX7_step 26 = .ok (.iconst 1, 1) := by decide +kernel
theorem dX7_step_27 : decode cX7_step 27 = .ok (.iconst 2, 1) := by decide +kernel
theorem dX7_step_28 : decode cX7_step 28 = .ok (.invokestatic 115, 3) := by decide +kernel
theorem dX7_step_31 : decode cX7_step 31 = .ok (.ifCond .eq 19, 3) := by decide +kernel
theorem dX7_step_34 : decode cX7_step 34 = .ok (.iload_n 3, 1) := by decide +kernel
theorem dX7_step_35 : decode cX7_step 35 = .ok (.ifCond .lt 15, 3) := by decide +kernel
theorem dX7_step_38 : decode cX7_step 38 = .ok (.iload_n 3, 1) := by decide +kernel
theorem dX7_step_39 : decode cX7_step 39 = .ok (.aload_n 0, 1) := by decide +kernel
theorem dX7_step_40 : decode cX7_step 40 = .ok (.getfield 126, 3) := by decide +kernel
theorem dX7_step_43 : decode cX7_step 43 = .ok (.if_icmp .ge 7, 3) := by decide +kernel
theorem dX7_step_46 : decode cX7_step 46 = .ok (.iconst 1, 1) := by decide +kernel
theorem dX7_step_47 : decode cX7_step 47 = .ok (.goto 4, 3) := by decide +kernel
theorem dX7_step_50 : decode cX7_step 50 = .ok (.iconst 0, 1) := by decide +kernel
theorem dX7_step_51 : decode cX7_step 51 = .ok (.istore 4, 2) := by decide +kernel
theorem dX7_step_53 : decode cX7_step 53 = .ok (.aload_n 0, 1) := by decide +kernel
theorem dX7_step_54 : decode cX7_step 54 = .ok (.iload 4, 2) := by decide +kernel
theorem dX7_step_56 : decode cX7_step 56 = .ok (.ifCond .ne 7, 3) := by decide +kernel
theorem dX7_step_59 : decode cX7_step 59 = .ok (.iconst 1, 1) := by decide +kernel
theorem dX7_step_60 : decode cX7_step 60 = .ok (.goto 4, 3) := by decide +kernel
theorem dX7_step_63 : decode cX7_step 63 = .ok (.iconst 0, 1) := by decide +kernel
theorem dX7_step_64 : decode cX7_step 64 = .ok (.putfield 109, 3) := by decide +kernel
theorem dX7_step_67 : decode cX7_step 67 = .ok (.aload_n 0, 1) := by decide +kernel
theorem dX7_step_68 : decode cX7_step 68 = .ok (.getfield 109, 3) := by decide +kernel
theorem dX7_step_71 : decode cX7_step 71 = .ok (.ifCond .le 5, 3) := by decide +kernel
theorem dX7_step_74 : decode cX7_step 74 = .ok (.iconst 0, 1) := by decide +kernel
theorem dX7_step_75 : decode cX7_step 75 = .ok (.ireturn, 1) := by decide +kernel
theorem dX7_step_76 : decode cX7_step 76 = .ok (.aload_n 0, 1) := by decide +kernel
theorem dX7_step_77 : decode cX7_step 77 = .ok (.aload_n 0, 1) := by decide +kernel
theorem dX7_step_78 : decode cX7_step 78 = .ok (.getfield 119, 3) := by decide +kernel
theorem dX7_step_81 : decode cX7_step 81 = .ok (.ifCond .ne 14, 3) := by decide +kernel
theorem dX7_step_84 : decode cX7_step 84 = .ok (.aload_n 0, 1) := by decide +kernel
theorem dX7_step_85 : decode cX7_step 85 = .ok (.getfield 33, 3) := by decide +kernel
theorem dX7_step_88 : decode cX7_step 88 = .ok (.iload_n 1, 1) := by decide +kernel
theorem dX7_step_89 : decode cX7_step 89 = .ok (.iaload, 1) := by decide +kernel
theorem dX7_step_90 : decode cX7_step 90 = .ok (.bipush 10, 2) := by decide +kernel
theorem dX7_step_92 : decode cX7_step 92 = .ok (.if_icmp .ne 7, 3) := by decide +kernel
theorem dX7_step_95 : decode cX7_step 95 = .ok (.iconst 2, 1) := by decide +kernel
theorem dX7_step_96 : decode cX7_step 96 = .ok (.goto 4, 3) := by decide +kernel
theorem dX7_step_99 : decode cX7_step 99 = .ok (.iconst 0, 1) := by decide +kernel
theorem dX7_step_100 : decode cX7_step 100 = .ok (.putfield 109, 3) := by decide +kernel
theorem dX7_step_103 : decode cX7_step 103 = .ok (.aload_n 0, 1) := by decide +kernel
theorem dX7_step_104 : decode cX7_step 104 = .ok (.getfield 109, 3) := by decide +kernel
theorem dX7_step_107 : decode cX7_step 107 = .ok (.ifCond .le 5, 3) := by decide +kernel
theorem dX7_step_110 : decode cX7_step 110 = .ok (.iconst 0, 1) := by decide +kernel
theorem dX7_step_111 : decode cX7_step 111 = .ok (.ireturn, 1) := by decide +kernel
theorem dX7_step_112 : decode cX7_step 112 = .ok (.aload_n 0, 1) := by decide +kernel
theorem dX7_step_113 : decode cX7_step 113 = .ok (.getfield 36, 3) := by decide +kernel
theorem dX7_step_116 : decode cX7_step 116 = .ok (.bipush 10, 2) := by decide +kernel
theorem dX7_step_118 : decode cX7_step 118 = .ok (.iload_n 1, 1) := by decide +kernel
theorem dX7_step_119 : decode cX7_step 119 = .ok (.imul, 1) := by decide +kernel
theorem dX7_step_120 : decode cX7_step 120 = .ok (.aload_n 0, 1) := by decide +kernel
theorem dX7_step_121 : decode cX7_step 121 = .ok (.getfield 33, 3) := by decide +kernel
theorem dX7_step_124 : decode cX7_step 124 = .ok (.iload_n 1, 1) := by decide +kernel
theorem dX7_step_125 : decode cX7_step 125 = .ok (.iaload, 1) := by decide +kernel
theorem dX7_step_126 : decode cX7_step 126 = .ok (.iadd, 1) := by decide +kernel
theorem dX7_step_127 : decode cX7_step 127 = .ok (.iload_n 2, 1) := by decide +kernel
theorem dX7_step_128 : decode cX7_step 128 = .ok (.iastore, 1) := by decide +kernel
theorem dX7_step_129 : decode cX7_step 129 = .ok (.aload_n 0, 1) := by decide +kernel
theorem dX7_step_130 : decode cX7_step 130 = .ok (.getfield 39, 3) := by decide +kernel
theorem dX7_step_133 : decode cX7_step 133 = .ok (.bipush 10, 2) := by decide +kernel
theorem dX7_step_135 : decode cX7_step 135 = .ok (.iload_n 1, 1) := by decide +kernel
theorem dX7_step_136 : decode cX7_step 136 = .ok (.imul, 1) := by decide +kernel
theorem dX7_step_137 : decode cX7_step 137 = .ok (.aload_n 0, 1) := by decide +kernel
theorem dX7_step_138 : decode cX7_step 138 = .ok (.getfield 33, 3) := by decide +kernel
theorem dX7_step_141 : decode cX7_step 141 = .ok (.iload_n 1, 1) := by decide +kernel
theorem dX7_step_142 : decode cX7_step 142 = .ok (.iaload, 1) := by decide +kernel
theorem dX7_step_143 : decode cX7_step 143 = .ok (.iadd, 1) := by decide +kernel
theorem dX7_step_144 : decode cX7_step 144 = .ok (.iload_n 3, 1) := by decide +kernel
theorem dX7_step_145 : decode cX7_step 145 = .ok (.iastore, 1) := by decide +kernel
theorem dX7_step_146 : decode cX7_step 146 = .ok (.aload_n 0, 1) := by decide +kernel
theorem dX7_step_147 : decode cX7_step 147 = .ok (.getfield 33, 3) := by decide +kernel
theorem dX7_step_150 : decode cX7_step 150 = .ok (.iload_n 1, 1) := by decide +kernel
theorem dX7_step_151 : decode cX7_step 151 = .ok (.dup2, 1) := by decide +kernel
theorem dX7_step_152 : decode cX7_step 152 = .ok (.iaload, 1) := by decide +kernel
theorem dX7_step_153 : decode cX7_step 153 = .ok (.iconst 1, 1) := by decide +kernel
theorem dX7_step_154 : decode cX7_step 154 = .ok (.iadd, 1) := by decide +kernel
theorem dX7_step_155 : decode cX7_step 155 = .ok (.iastore, 1) := by decide +kernel
theorem dX7_step_156 : decode cX7_step 156 = .ok (.aload_n 0, 1) := by decide +kernel
theorem dX7_step_157 : decode cX7_step 157 = .ok (.getfield 33, 3) := by decide +kernel
theorem dX7_step_160 : decode cX7_step 160 = .ok (.iload_n 1, 1) := by decide +kernel
theorem dX7_step_161 : decode cX7_step 161 = .ok (.iaload, 1) := by decide +kernel
theorem dX7_step_162 : decode cX7_step 162 = .ok (.ireturn, 1) := by decide +kernel
theorem dX7_start_0 : decode cX7_start 0 = .ok (.aload_n 0, 1) := by decide +kernel
theorem dX7_start_1 : decode cX7_start 1 = .ok (.aload_n 0, 1) := by decide +kernel
theorem dX7_start_2 : decode cX7_start 2 = .ok (.getfield 119, 3) := by decide +kernel
theorem dX7_start_5 : decode cX7_start 5 = .ok (.ifCond .ne 10, 3) := by decide +kernel
theorem dX7_start_8 : decode cX7_start 8 = .ok (.aload_n 0, 1) := by decide +kernel
theorem dX7_start_9 : decode cX7_start 9 = .ok (.getfield 112, 3) := by decide +kernel
theorem dX7_start_12 : decode cX7_start 12 = .ok (.ifCond .ne 7, 3) := by decide +kernel
theorem dX7_start_15 : decode cX7_start 15 = .ok (.iconst 1, 1) := by decide +kernel
theorem dX7_start_16 : decode cX7_start 16 = .ok (.goto 4, 3) := by decide +kernel
theorem dX7_start_19 : decode cX7_start 19 = .ok (.iconst 0, 1) := by decide +kernel
theorem dX7_start_20 : decode cX7_start 20 = .ok (.putfield 109, 3) := by decide +kernel
theorem dX7_start_23 : decode cX7_start 23 = .ok (.aload_n 0, 1) := by decide +kernel
theorem dX7_start_24 : decode cX7_start 24 = .ok (.aload_n 0, 1) := by decide +kernel
theorem dX7_start_25 : decode cX7_start 25 = .ok (.getfield 119, 3) := by decide +kernel
theorem dX7_start_28 : decode cX7_start 28 = .ok (.ifCond .ne 10, 3) := by decide +kernel
theorem dX7_start_31 : decode cX7_start 31 = .ok (.aload_n 0, 1) := by decide +kernel
theorem dX7_start_32 : decode cX7_start 32 = .ok (.getfield 109, 3) := by decide +kernel
theorem dX7_start_35 : decode cX7_start 35 = .ok (.ifCond .ne 7, 3) := by decide +kernel
theorem dX7_start_38 : decode cX7_start 38 = .ok (.iconst 1, 1) := by decide +kernel
theorem dX7_start_39 : decode cX7_start 39 = .ok (.goto 4, 3) := by decide +kernel
theorem dX7_start_42 : decode cX7_start 42 = .ok (.iconst 0, 1) := by decide +kernel
theorem dX7_start_43 : decode cX7_start 43 = .ok (.putfield 119, 3) := by decide +kernel
theorem dX7_start_46 : decode cX7_start 46 = .ok (.return_, 1) := by decide +kernel
theorem dX7_better_0 : decode cX7_better 0 = .ok (.aload_n 0, 1) := by decide +kernel
theorem dX7_better_1 : decode cX7_better 1 = .ok (.getfield 105, 3) := by decide +kernel
theorem dX7_better_4 : decode cX7_better 4 = .ok (.ifCond .eq 16, 3) := by decide +kernel
theorem dX7_better_7 : decode cX7_better 7 = .ok (.iload_n 1, 1) := by decide +kernel
theorem dX7_better_8 : decode cX7_better 8 = .ok (.iload_n 2, 1) := by decide +kernel
theorem dX7_better_9 : decode cX7_better 9 = .ok (.if_icmp .ge 7, 3) := by decide +kernel
theorem dX7_better_12 : decode cX7_better 12 = .ok (.iconst 1, 1) := by decide +kernel
theorem dX7_better_13 : decode cX7_better 13 = .ok (.goto 17, 3) := by decide +kernel
theorem dX7_better_16 : decode cX7_better 16 = .ok (.iconst 0, 1) := by decide +kernel
theorem dX7_better_17 : decode cX7_better 17 = .ok (.goto 13, 3) := by decide +kernel
theorem dX7_better_20 : decode cX7_better 20 = .ok (.iload_n 1, 1) := by decide +kernel
theorem dX7_better_21 : decode cX7_better 21 = .ok (.iload_n 2, 1) := by decide +kernel
theorem dX7_better_22 : decode cX7_better 22 = .ok (.if_icmp .le 7, 3) := by decide +kernel
theorem dX7_better_25 : decode cX7_better 25 = .ok (.iconst 1, 1) := by decide +kernel
theorem dX7_better_26 : decode cX7_better 26 = .ok (.goto 4, 3) := by decide +kernel
theorem dX7_better_29 : decode cX7_better 29 = .ok (.iconst 0, 1) := by decide +kernel
theorem dX7_better_30 : decode cX7_better 30 = .ok (.ireturn, 1) := by decide +kernel
theorem dX7_weigh_0 : decode cX7_weigh 0 = .ok (.iconst 0, 1) := by decide +kernel
theorem dX7_weigh_1 : decode cX7_weigh 1 = .ok (.istore_n 1, 1) := by decide +kernel
theorem dX7_weigh_2 : decode cX7_weigh 2 = .ok (.iload_n 1, 1) := by decide +kernel
theorem dX7_weigh_3 : decode cX7_weigh 3 = .ok (.aload_n 0, 1) := by decide +kernel
theorem dX7_weigh_4 : decode cX7_weigh 4 = .ok (.getfield 112, 3) := by decide +kernel
theorem dX7_weigh_7 : decode cX7_weigh 7 = .ok (.if_icmp .ge 126, 3) := by decide +kernel
theorem dX7_weigh_10 : decode cX7_weigh 10 = .ok (.aload_n 0, 1) := by decide +kernel
theorem dX7_weigh_11 : decode cX7_weigh 11 = .ok (.getfield 66, 3) := by decide +kernel
theorem dX7_weigh_14 : decode cX7_weigh 14 = .ok (.iload_n 1, 1) := by decide +kernel
theorem dX7_weigh_15 : decode cX7_weigh 15 = .ok (.aload_n 0, 1) := by decide +kernel
theorem dX7_weigh_16 : decode cX7_weigh 16 = .ok (.getfield 105, 3) := by decide +kernel
theorem dX7_weigh_19 : decode cX7_weigh 19 = .ok (.ifCond .eq 12, 3) := by decide +kernel
theorem dX7_weigh_22 : decode cX7_weigh 22 = .ok (.aload_n 0, 1) := by decide +kernel
theorem dX7_weigh_23 : decode cX7_weigh 23 = .ok (.getfield 51, 3) := by decide +kernel
theorem dX7_weigh_26 : decode cX7_weigh 26 = .ok (.iload_n 1, 1) := by decide +kernel
theorem dX7_weigh_27 : decode cX7_weigh 27 = .ok (.iaload, 1) := by decide +kernel
theorem dX7_weigh_28 : decode cX7_weigh 28 = .ok (.goto 9, 3) := by decide +kernel
theorem dX7_weigh_31 : decode cX7_weigh 31 = .ok (.aload_n 0, 1) := by decide +kernel
theorem dX7_weigh_32 : decode cX7_weigh 32 = .ok (.getfield 13, 3) := by decide +kernel
theorem dX7_weigh_35 : decode cX7_weigh 35 = .ok (.iload_n 1, 1) := by decide +kernel
theorem dX7_weigh_36 : decode cX7_weigh 36 = .ok (.iaload, 1) := by decide +kernel
theorem dX7_weigh_37 : decode cX7_weigh 37 = .ok (.iastore, 1) := by decide +kernel
theorem dX7_weigh_38 : decode cX7_weigh 38 = .ok (.iconst 0, 1) := by decide +kernel
theorem dX7_weigh_39 : decode cX7_weigh 39 = .ok (.istore_n 2, 1) := by decide +kernel
theorem dX7_weigh_40 : decode cX7_weigh 40 = .ok (.iload_n 2, 1) := by decide +kernel
theorem dX7_weigh_41 : decode cX7_weigh 41 = .ok (.aload_n 0, 1) := by decide +kernel
theorem dX7_weigh_42 : decode cX7_weigh 42 = .ok (.getfield 126, 3) := by decide +kernel
theorem dX7_weigh_45 : decode cX7_weigh 45 = .ok (.if_icmp .ge 82, 3) := by decide +kernel
theorem dX7_weigh_48 : decode cX7_weigh 48 = .ok (.aload_n 0, 1) := by decide +kernel
theorem dX7_weigh_49 : decode cX7_weigh 49 = .ok (.getfield 105, 3) := by decide +kernel
theorem dX7_weigh_52 : decode cX7_weigh 52 = .ok (.ifCond .ne 75, 3) := by decide +kernel
theorem dX7_weigh_55 : decode cX7_weigh 55 = .ok (.aload_n 0, 1) := by decide +kernel
theorem dX7_weigh_56 : decode cX7_weigh 56 = .ok (.getfield 93, 3) := by decide +kernel
theorem dX7_weigh_59 : decode cX7_weigh 59 = .ok (.iload_n 2, 1) := by decide +kernel
theorem dX7_weigh_60 : decode cX7_weigh 60 = .ok (.iaload, 1) := by decide +kernel
theorem dX7_weigh_61 : decode cX7_weigh 61 = .ok (.iload_n 1, 1) := by decide +kernel
theorem dX7_weigh_62 : decode cX7_weigh 62 = .ok (.if_icmp .ne 32, 3) := by decide +kernel
theorem dX7_weigh_65 : decode cX7_weigh 65 = .ok (.aload_n 0, 1) := by decide +kernel
theorem dX7_weigh_66 : decode cX7_weigh 66 = .ok (.getfield 87, 3) := by decide +kernel
theorem dX7_weigh_69 : decode cX7_weigh 69 = .ok (.iload_n 2, 1) := by decide +kernel
theorem dX7_weigh_70 : decode cX7_weigh 70 = .ok (.iaload, 1) := by decide +kernel
theorem dX7_weigh_71 : decode cX7_weigh 71 = .ok (.iconst 2, 1) := by decide +kernel
theorem dX7_weigh_72 : decode cX7_weigh 72 = .ok (.if_icmp .ne 22, 3) := by decide +kernel
theorem dX7_weigh_75 : decode cX7_weigh 75 = .ok (.aload_n 0, 1) := by decide +kernel
theorem dX7_weigh_76 : decode cX7_weigh 76 = .ok (.getfield 90, 3) := by decide +kernel
theorem dX7_weigh_79 : decode cX7_weigh 79 = .ok (.iload_n 2, 1) := by decide +kernel
theorem dX7_weigh_80 : decode cX7_weigh 80 = .ok (.iaload, 1) := by decide +kernel
theorem dX7_weigh_81 : decode cX7_weigh 81 = .ok (.aload_n 0, 1) := by decide +kernel
theorem dX7_weigh_82 : decode cX7_weigh 82 = .ok (.getfield 66, 3) := by decide +kernel
theorem dX7_weigh_85 : decode cX7_weigh 85 = .ok (.iload_n 1, 1) := by decide +kernel
theorem dX7_weigh_86 : decode cX7_weigh 86 = .ok (.iaload, 1) := by decide +kernel
theorem dX7_weigh_87 : decode cX7_weigh 87 = .ok (.if_icmp .le 7, 3) := by decide +kernel
theorem dX7_weigh_90 : decode cX7_weigh 90 = .ok (.iconst 1, 1) := by decide +kernel
theorem dX7_weigh_91 : decode cX7_weigh 91 = .ok (.goto 4, 3) := by decide +kernel
theorem dX7_weigh_94 : decode cX7_weigh 94 = .ok (.iconst 0, 1) := by decide +kernel
theorem dX7_weigh_95 : decode cX7_weigh 95 = .ok (.istore_n 3, 1) := by decide +kernel
theorem dX7_weigh_96 : decode cX7_weigh 96 = .ok (.aload_n 0, 1) := by decide +kernel
theorem dX7_weigh_97 : decode cX7_weigh 97 = .ok (.getfield 66, 3) := by decide +kernel
theorem dX7_weigh_100 : decode cX7_weigh 100 = .ok (.iload_n 1, 1) := by decide +kernel
theorem dX7_weigh_101 : decode cX7_weigh 101 = .ok (.iload_n 3, 1) := by decide +kernel
theorem dX7_weigh_102 : decode cX7_weigh 102 = .ok (.ifCond .eq 12, 3) := by decide +kernel
theorem dX7_weigh_105 : decode cX7_weigh 105 = .ok (.aload_n 0, 1) := by decide +kernel
theorem dX7_weigh_106 : decode cX7_weigh 106 = .ok (.getfield 90, 3) := by decide +kernel
theorem dX7_weigh_109 : decode cX7_weigh 109 = .ok (.iload_n 2, 1) := by decide +kernel
theorem dX7_weigh_110 : decode cX7_weigh 110 = .ok (.iaload, 1) := by decide +kernel
theorem dX7_weigh_111 : decode cX7_weigh 111 = .ok (.goto 9, 3) := by decide +kernel
theorem dX7_weigh_114 : decode cX7_weigh 114 = .ok (.aload_n 0, 1) := by decide +kernel
theorem dX7_weigh_115 : decode cX7_weigh 115 = .ok (.getfield 66, 3) := by decide +kernel
theorem dX7_weigh_118 : decode cX7_weigh 118 = .ok (.iload_n 1, 1) := by decide +kernel
theorem dX7_weigh_119 : decode cX7_weigh 119 = .ok (.iaload, 1) := by decide +kernel
theorem dX7_weigh_120 : decode cX7_weigh 120 = .ok (.iastore, 1) := by decide +kernel
theorem dX7_weigh_121 : decode cX7_weigh 121 = .ok (.iinc 2 1, 3) := by decide +kernel
theorem dX7_weigh_124 : decode cX7_weigh 124 = .ok (.goto (-84), 3) := by decide +kernel
theorem dX7_weigh_127 : decode cX7_weigh 127 = .ok (.iinc 1 1, 3) := by decide +kernel
theorem dX7_weigh_130 : decode cX7_weigh 130 = .ok (.goto (-128), 3) := by decide +kernel
theorem dX7_weigh_133 : decode cX7_weigh 133 = .ok (.iconst 0, 1) := by decide +kernel
theorem dX7_weigh_134 : decode cX7_weigh 134 = .ok (.istore_n 1, 1) := by decide +kernel
theorem dX7_weigh_135 : decode cX7_weigh 135 = .ok (.iload_n 1, 1) := by decide +kernel
theorem dX7_weigh_136 : decode cX7_weigh 136 = .ok (.bipush 8, 2) := by decide +kernel
theorem dX7_weigh_138 : decode cX7_weigh 138 = .ok (.if_icmp .ge 127, 3) := by decide +kernel
theorem dX7_weigh_141 : decode cX7_weigh 141 = .ok (.iconst 0, 1) := by decide +kernel
theorem dX7_weigh_142 : decode cX7_weigh 142 = .ok (.istore_n 2, 1) := by decide +kernel
theorem dX7_weigh_143 : decode cX7_weigh 143 = .ok (.iload_n 2, 1) := by decide +kernel
theorem dX7_weigh_144 : decode cX7_weigh 144 = .ok (.aload_n 0, 1) := by decide +kernel
theorem dX7_weigh_145 : decode cX7_weigh 145 = .ok (.getfield 112, 3) := by decide +kernel
theorem dX7_weigh_148 : decode cX7_weigh 148 = .ok (.if_icmp .ge 111, 3) := by decide +kernel
theorem dX7_weigh_151 : decode cX7_weigh 151 = .ok (.aload_n 0, 1) := by decide +kernel
theorem dX7_weigh_152 : decode cX7_weigh 152 = .ok (.getfield 42, 3) := by decide +kernel
theorem dX7_weigh_155 : decode cX7_weigh 155 = .ok (.iload_n 2, 1) := by decide +kernel
theorem dX7_weigh_156 : decode cX7_weigh 156 = .ok (.iaload, 1) := by decide +kernel
theorem dX7_weigh_157 : decode cX7_weigh 157 = .ok (.iconst 2, 1) := by decide +kernel
theorem dX7_weigh_158 : decode cX7_weigh 158 = .ok (.if_icmp .ne 12, 3) := by decide +kernel
theorem dX7_weigh_161 : decode cX7_weigh 161 = .ok (.aload_n 0, 1) := by decide +kernel
theorem dX7_weigh_162 : decode cX7_weigh 162 = .ok (.getfield 60, 3) := by decide +kernel
theorem dX7_weigh_165 : decode cX7_weigh 165 = .ok (.iload_n 2, 1) := by decide +kernel
theorem dX7_weigh_166 : decode cX7_weigh 166 = .ok (.iaload, 1) := by decide +kernel
theorem dX7_weigh_167 : decode cX7_weigh 167 = .ok (.goto 4, 3) := by decide +kernel
theorem dX7_weigh_170 : decode cX7_weigh 170 = .ok (.iconst (-1), 1) := by decide +kernel
theorem dX7_weigh_171 : decode cX7_weigh 171 = .ok (.istore_n 3, 1) := by decide +kernel
theorem dX7_weigh_172 : decode cX7_weigh 172 = .ok (.iload_n 3, 1) := by decide +kernel
theorem dX7_weigh_173 : decode cX7_weigh 173 = .ok (.ifCond .lt 30, 3) := by decide +kernel
theorem dX7_weigh_176 : decode cX7_weigh 176 = .ok (.aload_n 0, 1) := by decide +kernel
theorem dX7_weigh_177 : decode cX7_weigh 177 = .ok (.getfield 87, 3) := by decide +kernel
theorem dX7_weigh_180 : decode cX7_weigh 180 = .ok (.iload_n 3, 1) := by decide +kernel
theorem dX7_weigh_181 : decode cX7_weigh 181 = .ok (.ifCond .ge 7, 3) := by decide +kernel
theorem dX7_weigh_184 : decode cX7_weigh 184 = .ok (.iconst 0, 1) := by decide +kernel
theorem dX7_weigh_185 : decode cX7_weigh 185 = .ok (.goto 4, 3) := by decide +kernel
theorem dX7_weigh_188 : decode cX7_weigh 188 = .ok (.iload_n 3, 1) := by decide +kernel
theorem dX7_weigh_189 : decode cX7_weigh 189 = .ok (.iaload, 1) := by decide +kernel
theorem dX7_weigh_190 : decode cX7_weigh 190 = .ok (.iconst 1, 1) := by decide +kernel
theorem dX7_weigh_191 : decode cX7_weigh 191 = .ok (.if_icmp .ne 12, 3) := by decide +kernel
theorem dX7_weigh_194 : decode cX7_weigh 194 = .ok (.aload_n 0, 1) := by decide +kernel
theorem dX7_weigh_195 : decode cX7_weigh 195 = .ok (.getfield 93, 3) := by decide +kernel
theorem dX7_weigh_198 : decode cX7_weigh 198 = .ok (.iload_n 3, 1) := by decide +kernel
theorem dX7_weigh_199 : decode cX7_weigh 199 = .ok (.iaload, 1) := by decide +kernel
theorem dX7_weigh_200 : decode cX7_weigh 200 = .ok (.goto 4, 3) := by decide +kernel
theorem dX7_weigh_203 : decode cX7_weigh 203 = .ok (.iconst (-1), 1) := by decide +kernel
theorem dX7_weigh_204 : decode cX7_weigh 204 = .ok (.istore 4, 2) := by decide +kernel
theorem dX7_weigh_206 : decode cX7_weigh 206 = .ok (.iload 4, 2) := by decide +kernel
theorem dX7_weigh_208 : decode cX7_weigh 208 = .ok (.ifCond .lt 45, 3) := by decide +kernel
theorem dX7_weigh_211 : decode cX7_weigh 211 = .ok (.aload_n 0, 1) := by decide +kernel
theorem dX7_weigh_212 : decode cX7_weigh 212 = .ok (.aload_n 0, 1) := by decide +kernel
theorem dX7_weigh_213 : decode cX7_weigh 213 = .ok (.getfield 66, 3) := by decide +kernel
theorem dX7_weigh_216 : decode cX7_weigh 216 = .ok (.iload_n 2, 1) := by decide +kernel
theorem dX7_weigh_217 : decode cX7_weigh 217 = .ok (.iaload, 1) := by decide +kernel
theorem dX7_weigh_218 : decode cX7_weigh 218 = .ok (.aload_n 0, 1) := by decide +kernel
theorem dX7_weigh_219 : decode cX7_weigh 219 = .ok (.getfield 66, 3) := by decide +kernel
theorem dX7_weigh_222 : decode cX7_weigh 222 = .ok (.iload 4, 2) := by decide +kernel
theorem dX7_weigh_224 : decode cX7_weigh 224 = .ok (.ifCond .ge 7, 3) := by decide +kernel
theorem dX7_weigh_227 : decode cX7_weigh 227 = .ok (.iconst 0, 1) := by decide +kernel
theorem dX7_weigh_228 : decode cX7_weigh 228 = .ok (.goto 5, 3) := by decide +kernel
theorem dX7_weigh_231 : decode cX7_weigh 231 = .ok (.iload 4, 2) := by decide +kernel
theorem dX7_weigh_233 : decode cX7_weigh 233 = .ok (.iaload, 1) := by decide +kernel
theorem dX7_weigh_234 : decode cX7_weigh 234 = .ok (.invokevirtual 129, 3) := by decide +kernel
theorem dX7_weigh_237 : decode cX7_weigh 237 = .ok (.ifCond .eq 16, 3) := by decide +kernel
theorem dX7_weigh_240 : decode cX7_weigh 240 = .ok (.aload_n 0, 1) := by decide +kernel
theorem dX7_weigh_241 : decode cX7_weigh 241 = .ok (.getfield 66, 3) := by decide +kernel
theorem dX7_weigh_244 : decode cX7_weigh 244 = .ok (.iload 4, 2) := by decide +kernel
theorem dX7_weigh_246 : decode cX7_weigh 246 = .ok (.aload_n 0, 1) := by decide +kernel
theorem dX7_weigh_247 : decode cX7_weigh 247 = .ok (.getfield 66, 3) := by decide +kernel
theorem dX7_weigh_250 : decode cX7_weigh 250 = .ok (.iload_n 2, 1) := by decide +kernel
theorem dX7_weigh_251 : decode cX7_weigh 251 = .ok (.iaload, 1) := by decide +kernel
theorem dX7_weigh_252 : decode cX7_weigh 252 = .ok (.iastore, 1) := by decide +kernel
theorem dX7_weigh_253 : decode cX7_weigh 253 = .ok (.iinc 2 1, 3) := by decide +kernel
theorem dX7_weigh_256 : decode cX7_weigh 256 = .ok (.goto (-113), 3) := by decide +kernel
theorem dX7_weigh_259 : decode cX7_weigh 259 = .ok (.iinc 1 1, 3) := by decide +kernel
theorem dX7_weigh_262 : decode cX7_weigh 262 = .ok (.goto (-127), 3) := by decide +kernel
theorem dX7_weigh_265 : decode cX7_weigh 265 = .ok (.return_, 1) := by decide +kernel
theorem dX7_first_0 : decode cX7_first 0 = .ok (.aload_n 0, 1) := by decide +kernel
theorem dX7_first_1 : decode cX7_first 1 = .ok (.invokevirtual 133, 3) := by decide +kernel
theorem dX7_first_4 : decode cX7_first 4 = .ok (.iconst (-1), 1) := by decide +kernel
theorem dX7_first_5 : decode cX7_first 5 = .ok (.istore_n 1, 1) := by decide +kernel
theorem dX7_first_6 : decode cX7_first 6 = .ok (.iconst 0, 1) := by decide +kernel
theorem dX7_first_7 : decode cX7_first 7 = .ok (.istore_n 2, 1) := by decide +kernel
theorem dX7_first_8 : decode cX7_first 8 = .ok (.iload_n 2, 1) := by decide +kernel
theorem dX7_first_9 : decode cX7_first 9 = .ok (.aload_n 0, 1) := by decide +kernel
theorem dX7_first_10 : decode cX7_first 10 = .ok (.getfield 112, 3) := by decide +kernel
theorem dX7_first_13 : decode cX7_first 13 = .ok (.if_icmp .ge 114, 3) := by decide +kernel
theorem dX7_first_16 : decode cX7_first 16 = .ok (.aload_n 0, 1) := by decide +kernel
theorem dX7_first_17 : decode cX7_first 17 = .ok (.getfield 42, 3) := by decide +kernel
theorem dX7_first_20 : decode cX7_first 20 = .ok (.iload_n 2, 1) := by decide +kernel
theorem dX7_first_21 : decode cX7_first 21 = .ok (.iaload, 1) := by decide +kernel
theorem dX7_first_22 : decode cX7_first 22 = .ok (.iconst 1, 1) := by decide +kernel
theorem dX7_first_23 : decode cX7_first 23 = .ok (.if_icmp .ne 98, 3) := by decide +kernel
theorem dX7_first_26 : decode cX7_first 26 = .ok (.iload_n 1, 1) := by decide +kernel
theorem dX7_first_27 : decode cX7_first 27 = .ok (.ifCond .lt 22, 3) := by decide +kernel
theorem dX7_first_30 : decode cX7_first 30 = .ok (.aload_n 0, 1) := by decide +kernel
theorem dX7_first_31 : decode cX7_first 31 = .ok (.aload_n 0, 1) := by decide +kernel
theorem dX7_first_32 : decode cX7_first 32 = .ok (.getfield 66, 3) := by decide +kernel
theorem dX7_first_35 : decode cX7_first 35 = .ok (.iload_n 2, 1) := by decide +kernel
theorem dX7_first_36 : decode cX7_first 36 = .ok (.iaload, 1) := by decide +kernel
theorem dX7_first_37 : decode cX7_first 37 = .ok (.aload_n 0, 1) := by decide +kernel
theorem dX7_first_38 : decode cX7_first 38 = .ok (.getfield 66, 3) := by decide +kernel
theorem dX7_first_41 : decode cX7_first 41 = .ok (.iload_n 1, 1) := by decide +kernel
theorem dX7_first_42 : decode cX7_first 42 = .ok (.iaload, 1) := by decide +kernel
theorem dX7_first_43 : decode cX7_first 43 = .ok (.invokevirtual 129, 3) := by decide +kernel
theorem dX7_first_46 : decode cX7_first 46 = .ok (.ifCond .eq 7, 3) := by decide +kernel
theorem dX7_first_49 : decode cX7_first 49 = .ok (.iconst 1, 1) := by decide +kernel
theorem dX7_first_50 : decode cX7_first 50 = .ok (.goto 4, 3) := by decide +kernel
theorem dX7_first_53 : decode cX7_first 53 = .ok (.iconst 0, 1) := by decide +kernel
theorem dX7_first_54 : decode cX7_first 54 = .ok (.istore_n 3, 1) := by decide +kernel
theorem dX7_first_55 : decode cX7_first 55 = .ok (.iload_n 1, 1) := by decide +kernel
theorem dX7_first_56 : decode cX7_first 56 = .ok (.ifCond .lt 55, 3) := by decide +kernel
theorem dX7_first_59 : decode cX7_first 59 = .ok (.aload_n 0, 1) := by decide +kernel
theorem dX7_first_60 : decode cX7_first 60 = .ok (.getfield 66, 3) := by decide +kernel
theorem dX7_first_63 : decode cX7_first 63 = .ok (.iload_n 2, 1) := by decide +kernel
theorem dX7_first_64 : decode cX7_first 64 = .ok (.iaload, 1) := by decide +kernel
theorem dX7_first_65 : decode cX7_first 65 = .ok (.aload_n 0, 1) := by decide +kernel
theorem dX7_first_66 : decode cX7_first 66 = .ok (.getfield 66, 3) := by decide +kernel
theorem dX7_first_69 : decode cX7_first 69 = .ok (.iload_n 1, 1) := by decide +kernel
theorem dX7_first_70 : decode cX7_first 70 = .ok (.iaload, 1) := by decide +kernel
theorem dX7_first_71 : decode cX7_first 71 = .ok (.if_icmp .ne 40, 3) := by decide +kernel
theorem dX7_first_74 : decode cX7_first 74 = .ok (.iload_n 2, 1) := by decide +kernel
theorem dX7_first_75 : decode cX7_first 75 = .ok (.aload_n 0, 1) := by decide +kernel
theorem dX7_first_76 : decode cX7_first 76 = .ok (.getfield 7, 3) := by decide +kernel
theorem dX7_first_79 : decode cX7_first 79 = .ok (.if_icmp .eq 26, 3) := by decide +kernel
theorem dX7_first_82 : decode cX7_first 82 = .ok (.iload_n 1, 1) := by decide +kernel
theorem dX7_first_83 : decode cX7_first 83 = .ok (.aload_n 0, 1) := by decide +kernel
theorem dX7_first_84 : decode cX7_first 84 = .ok (.getfield 7, 3) := by decide +kernel
theorem dX7_first_87 : decode cX7_first 87 = .ok (.if_icmp .eq 22, 3) := by decide +kernel
theorem dX7_first_90 : decode cX7_first 90 = .ok (.aload_n 0, 1) := by decide +kernel
theorem dX7_first_91 : decode cX7_first 91 = .ok (.getfield 57, 3) := by decide +kernel
theorem dX7_first_94 : decode cX7_first 94 = .ok (.iload_n 2, 1) := by decide +kernel
theorem dX7_first_95 : decode cX7_first 95 = .ok (.iaload, 1) := by decide +kernel
theorem dX7_first_96 : decode cX7_first 96 = .ok (.aload_n 0, 1) := by decide +kernel
theorem dX7_first_97 : decode cX7_first 97 = .ok (.getfield 57, 3) := by decide +kernel
theorem dX7_first_100 : decode cX7_first 100 = .ok (.iload_n 1, 1) := by decide +kernel
theorem dX7_first_101 : decode cX7_first 101 = .ok (.iaload, 1) := by decide +kernel
theorem dX7_first_102 : decode cX7_first 102 = .ok (.if_icmp .ge 7, 3) := by decide +kernel
theorem dX7_first_105 : decode cX7_first 105 = .ok (.iconst 1, 1) := by decide +kernel
theorem dX7_first_106 : decode cX7_first 106 = .ok (.goto 4, 3) := by decide +kernel
theorem dX7_first_109 : decode cX7_first 109 = .ok (.iconst 0, 1) := by decide +kernel
theorem dX7_first_110 : decode cX7_first 110 = .ok (.istore_n 3, 1) := by decide +kernel
theorem dX7_first_111 : decode cX7_first 111 = .ok (.iload_n 3, 1) := by decide +kernel
theorem dX7_first_112 : decode cX7_first 112 = .ok (.ifCond .eq 7, 3) := by decide +kernel
theorem dX7_first_115 : decode cX7_first 115 = .ok (.iload_n 2, 1) := by decide +kernel
theorem dX7_first_116 : decode cX7_first 116 = .ok (.goto 4, 3) := by decide +kernel
theorem dX7_first_119 : decode cX7_first 119 = .ok (.iload_n 1, 1) := by decide +kernel
theorem dX7_first_120 : decode cX7_first 120 = .ok (.istore_n 1, 1) := by decide +kernel
theorem dX7_first_121 : decode cX7_first 121 = .ok (.iinc 2 1, 3) := by decide +kernel
theorem dX7_first_124 : decode cX7_first 124 = .ok (.goto (-116), 3) := by decide +kernel
theorem dX7_first_127 : decode cX7_first 127 = .ok (.iload_n 1, 1) := by decide +kernel
theorem dX7_first_128 : decode cX7_first 128 = .ok (.ireturn, 1) := by decide +kernel
theorem dX7_note_0 : decode cX7_note 0 = .ok (.aload_n 0, 1) := by decide +kernel
theorem dX7_note_1 : decode cX7_note 1 = .ok (.getfield 96, 3) := by decide +kernel
theorem dX7_note_4 : decode cX7_note 4 = .ok (.aload_n 0, 1) := by decide +kernel
theorem dX7_note_5 : decode cX7_note 5 = .ok (.getfield 136, 3) := by decide +kernel
theorem dX7_note_8 : decode cX7_note 8 = .ok (.bipush 40, 2) := by decide +kernel
theorem dX7_note_10 : decode cX7_note 10 = .ok (.irem, 1) := by decide +kernel
theorem dX7_note_11 : decode cX7_note 11 = .ok (.iload_n 1, 1) := by decide +kernel
theorem dX7_note_12 : decode cX7_note 12 = .ok (.iastore, 1) := by decide +kernel
theorem dX7_note_13 : decode cX7_note 13 = .ok (.aload_n 0, 1) := by decide +kernel
theorem dX7_note_14 : decode cX7_note 14 = .ok (.getfield 99, 3) := by decide +kernel
theorem dX7_note_17 : decode cX7_note 17 = .ok (.aload_n 0, 1) := by decide +kernel
theorem dX7_note_18 : decode cX7_note 18 = .ok (.getfield 136, 3) := by decide +kernel
theorem dX7_note_21 : decode cX7_note 21 = .ok (.bipush 40, 2) := by decide +kernel
theorem dX7_note_23 : decode cX7_note 23 = .ok (.irem, 1) := by decide +kernel
theorem dX7_note_24 : decode cX7_note 24 = .ok (.aload_n 0, 1) := by decide +kernel
theorem dX7_note_25 : decode cX7_note 25 = .ok (.getfield 139, 3) := by decide +kernel
theorem dX7_note_28 : decode cX7_note 28 = .ok (.iastore, 1) := by decide +kernel
theorem dX7_note_29 : decode cX7_note 29 = .ok (.aload_n 0, 1) := by decide +kernel
theorem dX7_note_30 : decode cX7_note 30 = .ok (.getfield 102, 3) := by decide +kernel
theorem dX7_note_33 : decode cX7_note 33 = .ok (.aload_n 0, 1) := by decide +kernel
theorem dX7_note_34 : decode cX7_note 34 = .ok (.getfield 136, 3) := by decide +kernel
theorem dX7_note_37 : decode cX7_note 37 = .ok (.bipush 40, 2) := by decide +kernel
theorem dX7_note_39 : decode cX7_note 39 = .ok (.irem, 1) := by decide +kernel
theorem dX7_note_40 : decode cX7_note 40 = .ok (.iload_n 2, 1) := by decide +kernel
theorem dX7_note_41 : decode cX7_note 41 = .ok (.iastore, 1) := by decide +kernel
theorem dX7_note_42 : decode cX7_note 42 = .ok (.aload_n 0, 1) := by decide +kernel
theorem dX7_note_43 : decode cX7_note 43 = .ok (.dup, 1) := by decide +kernel
theorem dX7_note_44 : decode cX7_note 44 = .ok (.getfield 136, 3) := by decide +kernel
theorem dX7_note_47 : decode cX7_note 47 = .ok (.iconst 1, 1) := by decide +kernel
theorem dX7_note_48 : decode cX7_note 48 = .ok (.iadd, 1) := by decide +kernel
theorem dX7_note_49 : decode cX7_note 49 = .ok (.putfield 136, 3) := by decide +kernel
theorem dX7_note_52 : decode cX7_note 52 = .ok (.return_, 1) := by decide +kernel
theorem dX7_ready_0 : decode cX7_ready 0 = .ok (.aload_n 0, 1) := by decide +kernel
theorem dX7_ready_1 : decode cX7_ready 1 = .ok (.getfield 42, 3) := by decide +kernel
theorem dX7_ready_4 : decode cX7_ready 4 = .ok (.iload_n 1, 1) := by decide +kernel
theorem dX7_ready_5 : decode cX7_ready 5 = .ok (.iconst 1, 1) := by decide +kernel
theorem dX7_ready_6 : decode cX7_ready 6 = .ok (.iastore, 1) := by decide +kernel
theorem dX7_ready_7 : decode cX7_ready 7 = .ok (.aload_n 0, 1) := by decide +kernel
theorem dX7_ready_8 : decode cX7_ready 8 = .ok (.dup, 1) := by decide +kernel
theorem dX7_ready_9 : decode cX7_ready 9 = .ok (.getfield 142, 3) := by decide +kernel
theorem dX7_ready_12 : decode cX7_ready 12 = .ok (.iconst 1, 1) := by decide +kernel
theorem dX7_ready_13 : decode cX7_ready 13 = .ok (.iadd, 1) := by decide +kernel
theorem dX7_ready_14 : decode cX7_ready 14 = .ok (.putfield 142, 3) := by decide +kernel
theorem dX7_ready_17 : decode cX7_ready 17 = .ok (.aload_n 0, 1) := by decide +kernel
theorem dX7_ready_18 : decode cX7_ready 18 = .ok (.getfield 57, 3) := by decide +kernel
theorem dX7_ready_21 : decode cX7_ready 21 = .ok (.iload_n 1, 1) := by decide +kernel
theorem dX7_ready_22 : decode cX7_ready 22 = .ok (.aload_n 0, 1) := by decide +kernel
theorem dX7_ready_23 : decode cX7_ready 23 = .ok (.getfield 142, 3) := by decide +kernel
theorem dX7_ready_26 : decode cX7_ready 26 = .ok (.iastore, 1) := by decide +kernel
theorem dX7_ready_27 : decode cX7_ready 27 = .ok (.return_, 1) := by decide +kernel
theorem dX7_begin_0 : decode cX7_begin 0 = .ok (.aload_n 0, 1) := by decide +kernel
theorem dX7_begin_1 : decode cX7_begin 1 = .ok (.getfield 42, 3) := by decide +kernel
theorem dX7_begin_4 : decode cX7_begin 4 = .ok (.iload_n 1, 1) := by decide +kernel
theorem dX7_begin_5 : decode cX7_begin 5 = .ok (.iaload, 1) := by decide +kernel
theorem dX7_begin_6 : decode cX7_begin 6 = .ok (.ifCond .eq 20, 3) := by decide +kernel
theorem dX7_begin_9 : decode cX7_begin 9 = .ok (.aload_n 0, 1) := by decide +kernel
theorem dX7_begin_10 : decode cX7_begin 10 = .ok (.getfield 78, 3) := by decide +kernel
theorem dX7_begin_13 : decode cX7_begin 13 = .ok (.iload_n 1, 1) := by decide +kernel
theorem dX7_begin_14 : decode cX7_begin 14 = .ok (.dup2, 1) := by decide +kernel
theorem dX7_begin_15 : decode cX7_begin 15 = .ok (.iaload, 1) := by decide +kernel
theorem dX7_begin_16 : decode cX7_begin 16 = .ok (.iconst 1, 1) := by decide +kernel
theorem dX7_begin_17 : decode cX7_begin 17 = .ok (.iadd, 1) := by decide +kernel
theorem dX7_begin_18 : decode cX7_begin 18 = .ok (.iastore, 1) := by decide +kernel
theorem dX7_begin_19 : decode cX7_begin 19 = .ok (.aload_n 0, 1) := by decide +kernel
theorem dX7_begin_20 : decode cX7_begin 20 = .ok (.iconst 1, 1) := by decide +kernel
theorem dX7_begin_21 : decode cX7_begin 21 = .ok (.iload_n 1, 1) := by decide +kernel
theorem dX7_begin_22 : decode cX7_begin 22 = .ok (.invokevirtual 145, 3) := by decide +kernel
theorem dX7_begin_25 : decode cX7_begin 25 = .ok (.return_, 1) := by decide +kernel
theorem dX7_begin_26 : decode cX7_begin 26 = .ok (.aload_n 0, 1) := by decide +kernel
theorem dX7_begin_27 : decode cX7_begin 27 = .ok (.getfield 45, 3) := by decide +kernel
theorem dX7_begin_30 : decode cX7_begin 30 = .ok (.iload_n 1, 1) := by decide +kernel
theorem dX7_begin_31 : decode cX7_begin 31 = .ok (.iconst 0, 1) := by decide +kernel
theorem dX7_begin_32 : decode cX7_begin 32 = .ok (.iastore, 1) := by decide +kernel
theorem dX7_begin_33 : decode cX7_begin 33 = .ok (.aload_n 0, 1) := by decide +kernel
theorem dX7_begin_34 : decode cX7_begin 34 = .ok (.getfield 48, 3) := by decide +kernel
theorem dX7_begin_37 : decode cX7_begin 37 = .ok (.iload_n 1, 1) := by decide +kernel
theorem dX7_begin_38 : decode cX7_begin 38 = .ok (.iconst 0, 1) := by decide +kernel
theorem dX7_begin_39 : decode cX7_begin 39 = .ok (.iastore, 1) := by decide +kernel
theorem dX7_begin_40 : decode cX7_begin 40 = .ok (.aload_n 0, 1) := by decide +kernel
theorem dX7_begin_41 : decode cX7_begin 41 = .ok (.getfield 63, 3) := by decide +kernel
theorem dX7_begin_44 : decode cX7_begin 44 = .ok (.iload_n 1, 1) := by decide +kernel
theorem dX7_begin_45 : decode cX7_begin 45 = .ok (.iconst 0, 1) := by decide +kernel
theorem dX7_begin_46 : decode cX7_begin 46 = .ok (.iastore, 1) := by decide +kernel
theorem dX7_begin_47 : decode cX7_begin 47 = .ok (.aload_n 0, 1) := by decide +kernel
theorem dX7_begin_48 : decode cX7_begin 48 = .ok (.getfield 51, 3) := by decide +kernel
theorem dX7_begin_51 : decode cX7_begin 51 = .ok (.iload_n 1, 1) := by decide +kernel
theorem dX7_begin_52 : decode cX7_begin 52 = .ok (.aload_n 0, 1) := by decide +kernel
theorem dX7_begin_53 : decode cX7_begin 53 = .ok (.getfield 139, 3) := by decide +kernel
theorem dX7_begin_56 : decode cX7_begin 56 = .ok (.aload_n 0, 1) := by decide +kernel
theorem dX7_begin_57 : decode cX7_begin 57 = .ok (.getfield 23, 3) := by decide +kernel
theorem dX7_begin_60 : decode cX7_begin 60 = .ok (.iload_n 1, 1) := by decide +kernel
theorem dX7_begin_61 : decode cX7_begin 61 = .ok (.iaload, 1) := by decide +kernel
theorem dX7_begin_62 : decode cX7_begin 62 = .ok (.iadd, 1) := by decide +kernel
theorem dX7_begin_63 : decode cX7_begin 63 = .ok (.iastore, 1) := by decide +kernel
theorem dX7_begin_64 : decode cX7_begin 64 = .ok (.aload_n 0, 1) := by decide +kernel
theorem dX7_begin_65 : decode cX7_begin 65 = .ok (.getfield 54, 3) := by decide +kernel
theorem dX7_begin_68 : decode cX7_begin 68 = .ok (.iload_n 1, 1) := by decide +kernel
theorem dX7_begin_69 : decode cX7_begin 69 = .ok (.aload_n 0, 1) := by decide +kernel
theorem dX7_begin_70 : decode cX7_begin 70 = .ok (.getfield 139, 3) := by decide +kernel
theorem dX7_begin_73 : decode cX7_begin 73 = .ok (.iastore, 1) := by decide +kernel
theorem dX7_begin_74 : decode cX7_begin 74 = .ok (.aload_n 0, 1) := by decide +kernel
theorem dX7_begin_75 : decode cX7_begin 75 = .ok (.iload_n 1, 1) := by decide +kernel
theorem dX7_begin_76 : decode cX7_begin 76 = .ok (.invokevirtual 149, 3) := by decide +kernel
theorem dX7_begin_79 : decode cX7_begin 79 = .ok (.aload_n 0, 1) := by decide +kernel
theorem dX7_begin_80 : decode cX7_begin 80 = .ok (.iconst 0, 1) := by decide +kernel
theorem dX7_begin_81 : decode cX7_begin 81 = .ok (.iload_n 1, 1) := by decide +kernel
theorem dX7_begin_82 : decode cX7_begin 82 = .ok (.invokevirtual 145, 3) := by decide +kernel
theorem dX7_begin_85 : decode cX7_begin 85 = .ok (.return_, 1) := by decide +kernel
theorem dX7_give_0 : decode cX7_give 0 = .ok (.aload_n 0, 1) := by decide +kernel
theorem dX7_give_1 : decode cX7_give 1 = .ok (.invokevirtual 133, 3) := by decide +kernel
theorem dX7_give_4 : decode cX7_give 4 = .ok (.iconst (-1), 1) := by decide +kernel
theorem dX7_give_5 : decode cX7_give 5 = .ok (.istore_n 2, 1) := by decide +kernel
theorem dX7_give_6 : decode cX7_give 6 = .ok (.iconst 0, 1) := by decide +kernel
theorem dX7_give_7 : decode cX7_give 7 = .ok (.istore_n 3, 1) := by decide +kernel
theorem dX7_give_8 : decode cX7_give 8 = .ok (.iload_n 3, 1) := by decide +kernel
theorem dX7_give_9 : decode cX7_give 9 = .ok (.aload_n 0, 1) := by decide +kernel
theorem dX7_give_10 : decode cX7_give 10 = .ok (.getfield 112, 3) := by decide +kernel
theorem dX7_give_13 : decode cX7_give 13 = .ok (.if_icmp .ge 100, 3) := by decide +kernel
theorem dX7_give_16 : decode cX7_give 16 = .ok (.aload_n 0, 1) := by decide +kernel
theorem dX7_give_17 : decode cX7_give 17 = .ok (.getfield 42, 3) := by decide +kernel
theorem dX7_give_20 : decode cX7_give 20 = .ok (.iload_n 3, 1) := by decide +kernel
theorem dX7_give_21 : decode cX7_give 21 = .ok (.iaload, 1) := by decide +kernel
theorem dX7_give_22 : decode cX7_give 22 = .ok (.iconst 2, 1) := by decide +kernel
theorem dX7_give_23 : decode cX7_give 23 = .ok (.if_icmp .ne 84, 3) := by decide +kernel
theorem dX7_give_26 : decode cX7_give 26 = .ok (.aload_n 0, 1) := by decide +kernel
theorem dX7_give_27 : decode cX7_give 27 = .ok (.getfield 60, 3) := by decide +kernel
theorem dX7_give_30 : decode cX7_give 30 = .ok (.iload_n 3, 1) := by decide +kernel
theorem dX7_give_31 : decode cX7_give 31 = .ok (.iaload, 1) := by decide +kernel
theorem dX7_give_32 : decode cX7_give 32 = .ok (.iload_n 1, 1) := by decide +kernel
theorem dX7_give_33 : decode cX7_give 33 = .ok (.if_icmp .ne 74, 3) := by decide +kernel
theorem dX7_give_36 : decode cX7_give 36 = .ok (.iload_n 2, 1) := by decide +kernel
theorem dX7_give_37 : decode cX7_give 37 = .ok (.ifCond .lt 52, 3) := by decide +kernel
theorem dX7_give_40 : decode cX7_give 40 = .ok (.aload_n 0, 1) := by decide +kernel
theorem dX7_give_41 : decode cX7_give 41 = .ok (.aload_n 0, 1) := by decide +kernel
theorem dX7_give_42 : decode cX7_give 42 = .ok (.getfield 66, 3) := by decide +kernel
theorem dX7_give_45 : decode cX7_give 45 = .ok (.iload_n 3, 1) := by decide +kernel
theorem dX7_give_46 : decode cX7_give 46 = .ok (.iaload, 1) := by decide +kernel
theorem dX7_give_47 : decode cX7_give 47 = .ok (.aload_n 0, 1) := by decide +kernel
theorem dX7_give_48 : decode cX7_give 48 = .ok (.getfield 66, 3) := by decide +kernel
theorem dX7_give_51 : decode cX7_give 51 = .ok (.iload_n 2, 1) := by decide +kernel
theorem dX7_give_52 : decode cX7_give 52 = .ok (.iaload, 1) := by decide +kernel
theorem dX7_give_53 : decode cX7_give 53 = .ok (.invokevirtual 129, 3) := by decide +kernel
theorem dX7_give_56 : decode cX7_give 56 = .ok (.ifCond .ne 33, 3) := by decide +kernel
theorem dX7_give_59 : decode cX7_give 59 = .ok (.aload_n 0, 1) := by decide +kernel
theorem dX7_give_60 : decode cX7_give 60 = .ok (.getfield 66, 3) := by decide +kernel
theorem dX7_give_63 : decode cX7_give 63 = .ok (.iload_n 3, 1) := by decide +kernel
theorem dX7_give_64 : decode cX7_give 64 = .ok (.iaload, 1) := by decide +kernel
theorem dX7_give_65 : decode cX7_give 65 = .ok (.aload_n 0, 1) := by decide +kernel
theorem dX7_give_66 : decode cX7_give 66 = .ok (.getfield 66, 3) := by decide +kernel
theorem dX7_give_69 : decode cX7_give 69 = .ok (.iload_n 2, 1) := by decide +kernel
theorem dX7_give_70 : decode cX7_give 70 = .ok (.iaload, 1) := by decide +kernel
theorem dX7_give_71 : decode cX7_give 71 = .ok (.if_icmp .ne 22, 3) := by decide +kernel
theorem dX7_give_74 : decode cX7_give 74 = .ok (.aload_n 0, 1) := by decide +kernel
theorem dX7_give_75 : decode cX7_give 75 = .ok (.getfield 57, 3) := by decide +kernel
theorem dX7_give_78 : decode cX7_give 78 = .ok (.iload_n 3, 1) := by decide +kernel
theorem dX7_give_79 : decode cX7_give 79 = .ok (.iaload, 1) := by decide +kernel
theorem dX7_give_80 : decode cX7_give 80 = .ok (.aload_n 0, 1) := by decide +kernel
theorem dX7_give_81 : decode cX7_give 81 = .ok (.getfield 57, 3) := by decide +kernel
theorem dX7_give_84 : decode cX7_give 84 = .ok (.iload_n 2, 1) := by decide +kernel
theorem dX7_give_85 : decode cX7_give 85 = .ok (.iaload, 1) := by decide +kernel
theorem dX7_give_86 : decode cX7_give 86 = .ok (.if_icmp .ge 7, 3) := by decide +kernel
theorem dX7_give_89 : decode cX7_give 89 = .ok (.iconst 1, 1) := by decide +kernel
theorem dX7_give_90 : decode cX7_give 90 = .ok (.goto 4, 3) := by decide +kernel
theorem dX7_give_93 : decode cX7_give 93 = .ok (.iconst 0, 1) := by decide +kernel
theorem dX7_give_94 : decode cX7_give 94 = .ok (.istore 4, 2) := by decide +kernel
theorem dX7_give_96 : decode cX7_give 96 = .ok (.iload 4, 2) := by decide +kernel
theorem dX7_give_98 : decode cX7_give 98 = .ok (.ifCond .eq 7, 3) := by decide +kernel
theorem dX7_give_101 : decode cX7_give 101 = .ok (.iload_n 3, 1) := by decide +kernel
theorem dX7_give_102 : decode cX7_give 102 = .ok (.goto 4, 3) := by decide +kernel
theorem dX7_give_105 : decode cX7_give 105 = .ok (.iload_n 2, 1) := by decide +kernel
theorem dX7_give_106 : decode cX7_give 106 = .ok (.istore_n 2, 1) := by decide +kernel
theorem dX7_give_107 : decode cX7_give 107 = .ok (.iinc 3 1, 3) := by decide +kernel
theorem dX7_give_110 : decode cX7_give 110 = .ok (.goto (-102), 3) := by decide +kernel
theorem dX7_give_113 : decode cX7_give 113 = .ok (.aload_n 0, 1) := by decide +kernel
theorem dX7_give_114 : decode cX7_give 114 = .ok (.getfield 93, 3) := by decide +kernel
theorem dX7_give_117 : decode cX7_give 117 = .ok (.iload_n 1, 1) := by decide +kernel
theorem dX7_give_118 : decode cX7_give 118 = .ok (.iload_n 2, 1) := by decide +kernel
theorem dX7_give_119 : decode cX7_give 119 = .ok (.iastore, 1) := by decide +kernel
theorem dX7_give_120 : decode cX7_give 120 = .ok (.iload_n 2, 1) := by decide +kernel
theorem dX7_give_121 : decode cX7_give 121 = .ok (.ifCond .lt 32, 3) := by decide +kernel
theorem dX7_give_124 : decode cX7_give 124 = .ok (.aload_n 0, 1) := by decide +kernel
theorem dX7_give_125 : decode cX7_give 125 = .ok (.getfield 60, 3) := by decide +kernel
theorem dX7_give_128 : decode cX7_give 128 = .ok (.iload_n 2, 1) := by decide +kernel
theorem dX7_give_129 : decode cX7_give 129 = .ok (.iconst (-1), 1) := by decide +kernel
theorem dX7_give_130 : decode cX7_give 130 = .ok (.iastore, 1) := by decide +kernel
theorem dX7_give_131 : decode cX7_give 131 = .ok (.aload_n 0, 1) := by decide +kernel
theorem dX7_give_132 : decode cX7_give 132 = .ok (.getfield 45, 3) := by decide +kernel
theorem dX7_give_135 : decode cX7_give 135 = .ok (.iload_n 2, 1) := by decide +kernel
theorem dX7_give_136 : decode cX7_give 136 = .ok (.dup2, 1) := by decide +kernel
theorem dX7_give_137 : decode cX7_give 137 = .ok (.iaload, 1) := by decide +kernel
theorem dX7_give_138 : decode cX7_give 138 = .ok (.iconst 1, 1) := by decide +kernel
theorem dX7_give_139 : decode cX7_give 139 = .ok (.iadd, 1) := by decide +kernel
theorem dX7_give_140 : decode cX7_give 140 = .ok (.iastore, 1) := by decide +kernel
theorem dX7_give_141 : decode cX7_give 141 = .ok (.aload_n 0, 1) := by decide +kernel
theorem dX7_give_142 : decode cX7_give 142 = .ok (.iload_n 2, 1) := by decide +kernel
theorem dX7_give_143 : decode cX7_give 143 = .ok (.invokevirtual 149, 3) := by decide +kernel
theorem dX7_give_146 : decode cX7_give 146 = .ok (.aload_n 0, 1) := by decide +kernel
theorem dX7_give_147 : decode cX7_give 147 = .ok (.bipush 6, 2) := by decide +kernel
theorem dX7_give_149 : decode cX7_give 149 = .ok (.iload_n 2, 1) := by decide +kernel
theorem dX7_give_150 : decode cX7_give 150 = .ok (.invokevirtual 145, 3) := by decide +kernel
theorem dX7_give_153 : decode cX7_give 153 = .ok (.return_, 1) := by decide +kernel
theorem dX7_over_0 : decode cX7_over 0 = .ok (.aload_n 0, 1) := by decide +kernel
theorem dX7_over_1 : decode cX7_over 1 = .ok (.getfield 42, 3) := by decide +kernel
theorem dX7_over_4 : decode cX7_over 4 = .ok (.iload_n 1, 1) := by decide +kernel
theorem dX7_over_5 : decode cX7_over 5 = .ok (.iconst 0, 1) := by decide +kernel
theorem dX7_over_6 : decode cX7_over 6 = .ok (.iastore, 1) := by decide +kernel
theorem dX7_over_7 : decode cX7_over 7 = .ok (.aload_n 0, 1) := by decide +kernel
theorem dX7_over_8 : decode cX7_over 8 = .ok (.getfield 60, 3) := by decide +kernel
theorem dX7_over_11 : decode cX7_over 11 = .ok (.iload_n 1, 1) := by decide +kernel
theorem dX7_over_12 : decode cX7_over 12 = .ok (.iconst (-1), 1) := by decide +kernel
theorem dX7_over_13 : decode cX7_over 13 = .ok (.iastore, 1) := by decide +kernel
theorem dX7_over_14 : decode cX7_over 14 = .ok (.iload_n 2, 1) := by decide +kernel
theorem dX7_over_15 : decode cX7_over 15 = .ok (.ifCond .eq 16, 3) := by decide +kernel
theorem dX7_over_18 : decode cX7_over 18 = .ok (.aload_n 0, 1) := by decide +kernel
theorem dX7_over_19 : decode cX7_over 19 = .ok (.getfield 72, 3) := by decide +kernel
theorem dX7_over_22 : decode cX7_over 22 = .ok (.iload_n 1, 1) := by decide +kernel
theorem dX7_over_23 : decode cX7_over 23 = .ok (.dup2, 1) := by decide +kernel
theorem dX7_over_24 : decode cX7_over 24 = .ok (.iaload, 1) := by decide +kernel
theorem dX7_over_25 : decode cX7_over 25 = .ok (.iconst 1, 1) := by decide +kernel
theorem dX7_over_26 : decode cX7_over 26 = .ok (.iadd, 1) := by decide +kernel
theorem dX7_over_27 : decode cX7_over 27 = .ok (.iastore, 1) := by decide +kernel
theorem dX7_over_28 : decode cX7_over 28 = .ok (.goto 53, 3) := by decide +kernel
theorem dX7_over_31 : decode cX7_over 31 = .ok (.aload_n 0, 1) := by decide +kernel
theorem dX7_over_32 : decode cX7_over 32 = .ok (.getfield 69, 3) := by decide +kernel
theorem dX7_over_35 : decode cX7_over 35 = .ok (.iload_n 1, 1) := by decide +kernel
theorem dX7_over_36 : decode cX7_over 36 = .ok (.dup2, 1) := by decide +kernel
theorem dX7_over_37 : decode cX7_over 37 = .ok (.iaload, 1) := by decide +kernel
theorem dX7_over_38 : decode cX7_over 38 = .ok (.iconst 1, 1) := by decide +kernel
theorem dX7_over_39 : decode cX7_over 39 = .ok (.iadd, 1) := by decide +kernel
theorem dX7_over_40 : decode cX7_over 40 = .ok (.iastore, 1) := by decide +kernel
theorem dX7_over_41 : decode cX7_over 41 = .ok (.aload_n 0, 1) := by decide +kernel
theorem dX7_over_42 : decode cX7_over 42 = .ok (.getfield 84, 3) := by decide +kernel
theorem dX7_over_45 : decode cX7_over 45 = .ok (.iload_n 1, 1) := by decide +kernel
theorem dX7_over_46 : decode cX7_over 46 = .ok (.iload_n 3, 1) := by decide +kernel
theorem dX7_over_47 : decode cX7_over 47 = .ok (.aload_n 0, 1) := by decide +kernel
theorem dX7_over_48 : decode cX7_over 48 = .ok (.getfield 54, 3) := by decide +kernel
theorem dX7_over_51 : decode cX7_over 51 = .ok (.iload_n 1, 1) := by decide +kernel
theorem dX7_over_52 : decode cX7_over 52 = .ok (.iaload, 1) := by decide +kernel
theorem dX7_over_53 : decode cX7_over 53 = .ok (.isub, 1) := by decide +kernel
theorem dX7_over_54 : decode cX7_over 54 = .ok (.aload_n 0, 1) := by decide +kernel
theorem dX7_over_55 : decode cX7_over 55 = .ok (.getfield 84, 3) := by decide +kernel
theorem dX7_over_58 : decode cX7_over 58 = .ok (.iload_n 1, 1) := by decide +kernel
theorem dX7_over_59 : decode cX7_over 59 = .ok (.iaload, 1) := by decide +kernel
theorem dX7_over_60 : decode cX7_over 60 = .ok (.if_icmp .le 14, 3) := by decide +kernel
theorem dX7_over_63 : decode cX7_over 63 = .ok (.iload_n 3, 1) := by decide +kernel
theorem dX7_over_64 : decode cX7_over 64 = .ok (.aload_n 0, 1) := by decide +kernel
theorem dX7_over_65 : decode cX7_over 65 = .ok (.getfield 54, 3) := by decide +kernel
theorem dX7_over_68 : decode cX7_over 68 = .ok (.iload_n 1, 1) := by decide +kernel
theorem dX7_over_69 : decode cX7_over 69 = .ok (.iaload, 1) := by decide +kernel
theorem dX7_over_70 : decode cX7_over 70 = .ok (.isub, 1) := by decide +kernel
theorem dX7_over_71 : decode cX7_over 71 = .ok (.goto 9, 3) := by decide +kernel
theorem dX7_over_74 : decode cX7_over 74 = .ok (.aload_n 0, 1) := by decide +kernel
theorem dX7_over_75 : decode cX7_over 75 = .ok (.getfield 84, 3) := by decide +kernel
theorem dX7_over_78 : decode cX7_over 78 = .ok (.iload_n 1, 1) := by decide +kernel
theorem dX7_over_79 : decode cX7_over 79 = .ok (.iaload, 1) := by decide +kernel
theorem dX7_over_80 : decode cX7_over 80 = .ok (.iastore, 1) := by decide +kernel
theorem dX7_over_81 : decode cX7_over 81 = .ok (.aload_n 0, 1) := by decide +kernel
theorem dX7_over_82 : decode cX7_over 82 = .ok (.iload_n 2, 1) := by decide +kernel
theorem dX7_over_83 : decode cX7_over 83 = .ok (.ifCond .eq 7, 3) := by decide +kernel
theorem dX7_over_86 : decode cX7_over 86 = .ok (.iconst 3, 1) := by decide +kernel
theorem dX7_over_87 : decode cX7_over 87 = .ok (.goto 4, 3) := by decide +kernel
theorem dX7_over_90 : decode cX7_over 90 = .ok (.iconst 2, 1) := by decide +kernel
theorem dX7_over_91 : decode cX7_over 91 = .ok (.iload_n 1, 1) := by decide +kernel
theorem dX7_over_92 : decode cX7_over 92 = .ok (.invokevirtual 145, 3) := by decide +kernel
theorem dX7_over_95 : decode cX7_over 95 = .ok (.iconst 0, 1) := by decide +kernel
theorem dX7_over_96 : decode cX7_over 96 = .ok (.istore 4, 2) := by decide +kernel
theorem dX7_over_98 : decode cX7_over 98 = .ok (.iload 4, 2) := by decide +kernel
theorem dX7_over_100 : decode cX7_over 100 = .ok (.aload_n 0, 1) := by decide +kernel
theorem dX7_over_101 : decode cX7_over 101 = .ok (.getfield 126, 3) := by decide +kernel
theorem dX7_over_104 : decode cX7_over 104 = .ok (.if_icmp .ge 26, 3) := by decide +kernel
theorem dX7_over_107 : decode cX7_over 107 = .ok (.aload_n 0, 1) := by decide +kernel
theorem dX7_over_108 : decode cX7_over 108 = .ok (.getfield 93, 3) := by decide +kernel
theorem dX7_over_111 : decode cX7_over 111 = .ok (.iload 4, 2) := by decide +kernel
theorem dX7_over_113 : decode cX7_over 113 = .ok (.iaload, 1) := by decide +kernel
theorem dX7_over_114 : decode cX7_over 114 = .ok (.iload_n 1, 1) := by decide +kernel
theorem dX7_over_115 : decode cX7_over 115 = .ok (.if_icmp .ne 9, 3) := by decide +kernel
theorem dX7_over_118 : decode cX7_over 118 = .ok (.aload_n 0, 1) := by decide +kernel
theorem dX7_over_119 : decode cX7_over 119 = .ok (.iload 4, 2) := by decide +kernel
theorem dX7_over_121 : decode cX7_over 121 = .ok (.invokevirtual 153, 3) := by decide +kernel
theorem dX7_over_124 : decode cX7_over 124 = .ok (.iinc 4 1, 3) := by decide +kernel
theorem dX7_over_127 : decode cX7_over 127 = .ok (.goto (-29), 3) := by decide +kernel
theorem dX7_over_130 : decode cX7_over 130 = .ok (.return_, 1) := by decide +kernel
theorem dX7_atWork_0 : decode cX7_atWork 0 = .ok (.aload_n 0, 1) := by decide +kernel
theorem dX7_atWork_1 : decode cX7_atWork 1 = .ok (.getfield 45, 3) := by decide +kernel
theorem dX7_atWork_4 : decode cX7_atWork 4 = .ok (.iload_n 1, 1) := by decide +kernel
theorem dX7_atWork_5 : decode cX7_atWork 5 = .ok (.iaload, 1) := by decide +kernel
theorem dX7_atWork_6 : decode cX7_atWork 6 = .ok (.aload_n 0, 1) := by decide +kernel
theorem dX7_atWork_7 : decode cX7_atWork 7 = .ok (.getfield 33, 3) := by decide +kernel
theorem dX7_atWork_10 : decode cX7_atWork 10 = .ok (.iload_n 1, 1) := by decide +kernel
theorem dX7_atWork_11 : decode cX7_atWork 11 = .ok (.iaload, 1) := by decide +kernel
theorem dX7_atWork_12 : decode cX7_atWork 12 = .ok (.if_icmp .ge 26, 3) := by decide +kernel
theorem dX7_atWork_15 : decode cX7_atWork 15 = .ok (.aload_n 0, 1) := by decide +kernel
theorem dX7_atWork_16 : decode cX7_atWork 16 = .ok (.getfield 36, 3) := by decide +kernel
theorem dX7_atWork_19 : decode cX7_atWork 19 = .ok (.bipush 10, 2) := by decide +kernel
theorem dX7_atWork_21 : decode cX7_atWork 21 = .ok (.iload_n 1, 1) := by decide +kernel
theorem dX7_atWork_22 : decode cX7_atWork 22 = .ok (.imul, 1) := by decide +kernel
theorem dX7_atWork_23 : decode cX7_atWork 23 = .ok (.aload_n 0, 1) := by decide +kernel
theorem dX7_atWork_24 : decode cX7_atWork 24 = .ok (.getfield 45, 3) := by decide +kernel
theorem dX7_atWork_27 : decode cX7_atWork 27 = .ok (.iload_n 1, 1) := by decide +kernel
theorem dX7_atWork_28 : decode cX7_atWork 28 = .ok (.iaload, 1) := by decide +kernel
theorem dX7_atWork_29 : decode cX7_atWork 29 = .ok (.iadd, 1) := by decide +kernel
theorem dX7_atWork_30 : decode cX7_atWork 30 = .ok (.iaload, 1) := by decide +kernel
theorem dX7_atWork_31 : decode cX7_atWork 31 = .ok (.ifCond .ne 7, 3) := by decide +kernel
theorem dX7_atWork_34 : decode cX7_atWork 34 = .ok (.iconst 1, 1) := by decide +kernel
theorem dX7_atWork_35 : decode cX7_atWork 35 = .ok (.goto 4, 3) := by decide +kernel
theorem dX7_atWork_38 : decode cX7_atWork 38 = .ok (.iconst 0, 1) := by decide +kernel
theorem dX7_atWork_39 : decode cX7_atWork 39 = .ok (.ireturn, 1) := by decide +kernel
theorem dX7_goOn_0 : decode cX7_goOn 0 = .ok (.aload_n 0, 1) := by decide +kernel
theorem dX7_goOn_1 : decode cX7_goOn 1 = .ok (.getfield 42, 3) := by decide +kernel
theorem dX7_goOn_4 : decode cX7_goOn 4 = .ok (.iload_n 1, 1) := by decide +kernel
theorem dX7_goOn_5 : decode cX7_goOn 5 = .ok (.iaload, 1) := by decide +kernel
theorem dX7_goOn_6 : decode cX7_goOn 6 = .ok (.iconst 1, 1) := by decide +kernel
theorem dX7_goOn_7 : decode cX7_goOn 7 = .ok (.if_icmp .ne 121, 3) := by decide +kernel
theorem dX7_goOn_10 : decode cX7_goOn 10 = .ok (.aload_n 0, 1) := by decide +kernel
theorem dX7_goOn_11 : decode cX7_goOn 11 = .ok (.iload_n 1, 1) := by decide +kernel
theorem dX7_goOn_12 : decode cX7_goOn 12 = .ok (.invokevirtual 156, 3) := by decide +kernel
theorem dX7_goOn_15 : decode cX7_goOn 15 = .ok (.ifCond .ne 113, 3) := by decide +kernel
theorem dX7_goOn_18 : decode cX7_goOn 18 = .ok (.bipush 10, 2) := by decide +kernel
theorem dX7_goOn_20 : decode cX7_goOn 20 = .ok (.iload_n 1, 1) := by decide +kernel
theorem dX7_goOn_21 : decode cX7_goOn 21 = .ok (.imul, 1) := by decide +kernel
theorem dX7_goOn_22 : decode cX7_goOn 22 = .ok (.aload_n 0, 1) := by decide +kernel
theorem dX7_goOn_23 : decode cX7_goOn 23 = .ok (.getfield 45, 3) := by decide +kernel
theorem dX7_goOn_26 : decode cX7_goOn 26 = .ok (.iload_n 1, 1) := by decide +kernel
theorem dX7_goOn_27 : decode cX7_goOn 27 = .ok (.iaload, 1) := by decide +kernel
theorem dX7_goOn_28 : decode cX7_goOn 28 = .ok (.iadd, 1) := by decide +kernel
theorem dX7_goOn_29 : decode cX7_goOn 29 = .ok (.istore_n 3, 1) := by decide +kernel
theorem dX7_goOn_30 : decode cX7_goOn 30 = .ok (.aload_n 0, 1) := by decide +kernel
theorem dX7_goOn_31 : decode cX7_goOn 31 = .ok (.getfield 45, 3) := by decide +kernel
theorem dX7_goOn_34 : decode cX7_goOn 34 = .ok (.iload_n 1, 1) := by decide +kernel
theorem dX7_goOn_35 : decode cX7_goOn 35 = .ok (.iaload, 1) := by decide +kernel
theorem dX7_goOn_36 : decode cX7_goOn 36 = .ok (.aload_n 0, 1) := by decide +kernel
theorem dX7_goOn_37 : decode cX7_goOn 37 = .ok (.getfield 33, 3) := by decide +kernel
theorem dX7_goOn_40 : decode cX7_goOn 40 = .ok (.iload_n 1, 1) := by decide +kernel
theorem dX7_goOn_41 : decode cX7_goOn 41 = .ok (.iaload, 1) := by decide +kernel
theorem dX7_goOn_42 : decode cX7_goOn 42 = .ok (.if_icmp .ne 13, 3) := by decide +kernel
theorem dX7_goOn_45 : decode cX7_goOn 45 = .ok (.aload_n 0, 1) := by decide +kernel
theorem dX7_goOn_46 : decode cX7_goOn 46 = .ok (.iload_n 1, 1) := by decide +kernel
theorem dX7_goOn_47 : decode cX7_goOn 47 = .ok (.iconst 0, 1) := by decide +kernel
theorem dX7_goOn_48 : decode cX7_goOn 48 = .ok (.iload_n 2, 1) := by decide +kernel
theorem dX7_goOn_49 : decode cX7_goOn 49 = .ok (.invokevirtual 159, 3) := by decide +kernel
theorem dX7_goOn_52 : decode cX7_goOn 52 = .ok (.goto 73, 3) := by decide +kernel
theorem dX7_goOn_55 : decode cX7_goOn 55 = .ok (.aload_n 0, 1) := by decide +kernel
theorem dX7_goOn_56 : decode cX7_goOn 56 = .ok (.getfield 36, 3) := by decide +kernel
theorem dX7_goOn_59 : decode cX7_goOn 59 = .ok (.iload_n 3, 1) := by decide +kernel
theorem dX7_goOn_60 : decode cX7_goOn 60 = .ok (.iaload, 1) := by decide +kernel
theorem dX7_goOn_61 : decode cX7_goOn 61 = .ok (.iconst 1, 1) := by decide +kernel
theorem dX7_goOn_62 : decode cX7_goOn 62 = .ok (.if_icmp .ne 18, 3) := by decide +kernel
theorem dX7_goOn_65 : decode cX7_goOn 65 = .ok (.aload_n 0, 1) := by decide +kernel
theorem dX7_goOn_66 : decode cX7_goOn 66 = .ok (.iload_n 1, 1) := by decide +kernel
theorem dX7_goOn_67 : decode cX7_goOn 67 = .ok (.aload_n 0, 1) := by decide +kernel
theorem dX7_goOn_68 : decode cX7_goOn 68 = .ok (.getfield 39, 3) := by decide +kernel
theorem dX7_goOn_71 : decode cX7_goOn 71 = .ok (.iload_n 3, 1) := by decide +kernel
theorem dX7_goOn_72 : decode cX7_goOn 72 = .ok (.iaload, 1) := by decide +kernel
theorem dX7_goOn_73 : decode cX7_goOn 73 = .ok (.iload_n 2, 1) := by decide +kernel
theorem dX7_goOn_74 : decode cX7_goOn 74 = .ok (.invokevirtual 163, 3) := by decide +kernel
theorem dX7_goOn_77 : decode cX7_goOn 77 = .ok (.goto 48, 3) := by decide +kernel
theorem dX7_goOn_80 : decode cX7_goOn 80 = .ok (.aload_n 0, 1) := by decide +kernel
theorem dX7_goOn_81 : decode cX7_goOn 81 = .ok (.getfield 93, 3) := by decide +kernel
theorem dX7_goOn_84 : decode cX7_goOn 84 = .ok (.aload_n 0, 1) := by decide +kernel
theorem dX7_goOn_85 : decode cX7_goOn 85 = .ok (.getfield 39, 3) := by decide +kernel
theorem dX7_goOn_88 : decode cX7_goOn 88 = .ok (.iload_n 3, 1) := by decide +kernel
theorem dX7_goOn_89 : decode cX7_goOn 89 = .ok (.iaload, 1) := by decide +kernel
theorem dX7_goOn_90 : decode cX7_goOn 90 = .ok (.iaload, 1) := by decide +kernel
theorem dX7_goOn_91 : decode cX7_goOn 91 = .ok (.iload_n 1, 1) := by decide +kernel
theorem dX7_goOn_92 : decode cX7_goOn 92 = .ok (.if_icmp .eq 13, 3) := by decide +kernel
theorem dX7_goOn_95 : decode cX7_goOn 95 = .ok (.aload_n 0, 1) := by decide +kernel
theorem dX7_goOn_96 : decode cX7_goOn 96 = .ok (.iload_n 1, 1) := by decide +kernel
theorem dX7_goOn_97 : decode cX7_goOn 97 = .ok (.iconst 1, 1) := by decide +kernel
theorem dX7_goOn_98 : decode cX7_goOn 98 = .ok (.iload_n 2, 1) := by decide +kernel
theorem dX7_goOn_99 : decode cX7_goOn 99 = .ok (.invokevirtual 159, 3) := by decide +kernel
theorem dX7_goOn_102 : decode cX7_goOn 102 = .ok (.goto 23, 3) := by decide +kernel
theorem dX7_goOn_105 : decode cX7_goOn 105 = .ok (.aload_n 0, 1) := by decide +kernel
theorem dX7_goOn_106 : decode cX7_goOn 106 = .ok (.getfield 45, 3) := by decide +kernel
theorem dX7_goOn_109 : decode cX7_goOn 109 = .ok (.iload_n 1, 1) := by decide +kernel
theorem dX7_goOn_110 : decode cX7_goOn 110 = .ok (.dup2, 1) := by decide +kernel
theorem dX7_goOn_111 : decode cX7_goOn 111 = .ok (.iaload, 1) := by decide +kernel
theorem dX7_goOn_112 : decode cX7_goOn 112 = .ok (.iconst 1, 1) := by decide +kernel
theorem dX7_goOn_113 : decode cX7_goOn 113 = .ok (.iadd, 1) := by decide +kernel
theorem dX7_goOn_114 : decode cX7_goOn 114 = .ok (.iastore, 1) := by decide +kernel
theorem dX7_goOn_115 : decode cX7_goOn 115 = .ok (.aload_n 0, 1) := by decide +kernel
theorem dX7_goOn_116 : decode cX7_goOn 116 = .ok (.aload_n 0, 1) := by decide +kernel
theorem dX7_goOn_117 : decode cX7_goOn 117 = .ok (.getfield 39, 3) := by decide +kernel
theorem dX7_goOn_120 : decode cX7_goOn 120 = .ok (.iload_n 3, 1) := by decide +kernel
theorem dX7_goOn_121 : decode cX7_goOn 121 = .ok (.iaload, 1) := by decide +kernel
theorem dX7_goOn_122 : decode cX7_goOn 122 = .ok (.invokevirtual 153, 3) := by decide +kernel
theorem dX7_goOn_125 : decode cX7_goOn 125 = .ok (.goto (-125), 3) := by decide +kernel
theorem dX7_goOn_128 : decode cX7_goOn 128 = .ok (.return_, 1) := by decide +kernel
theorem dX7_lock_0 : decode cX7_lock 0 = .ok (.aload_n 0, 1) := by decide +kernel
theorem dX7_lock_1 : decode cX7_lock 1 = .ok (.getfield 93, 3) := by decide +kernel
theorem dX7_lock_4 : decode cX7_lock 4 = .ok (.iload_n 2, 1) := by decide +kernel
theorem dX7_lock_5 : decode cX7_lock 5 = .ok (.iaload, 1) := by decide +kernel
theorem dX7_lock_6 : decode cX7_lock 6 = .ok (.iload_n 1, 1) := by decide +kernel
theorem dX7_lock_7 : decode cX7_lock 7 = .ok (.if_icmp .eq 35, 3) := by decide +kernel
theorem dX7_lock_10 : decode cX7_lock 10 = .ok (.aload_n 0, 1) := by decide +kernel
theorem dX7_lock_11 : decode cX7_lock 11 = .ok (.getfield 105, 3) := by decide +kernel
theorem dX7_lock_14 : decode cX7_lock 14 = .ok (.ifCond .ne 38, 3) := by decide +kernel
theorem dX7_lock_17 : decode cX7_lock 17 = .ok (.aload_n 0, 1) := by decide +kernel
theorem dX7_lock_18 : decode cX7_lock 18 = .ok (.getfield 87, 3) := by decide +kernel
theorem dX7_lock_21 : decode cX7_lock 21 = .ok (.iload_n 2, 1) := by decide +kernel
theorem dX7_lock_22 : decode cX7_lock 22 = .ok (.iaload, 1) := by decide +kernel
theorem dX7_lock_23 : decode cX7_lock 23 = .ok (.iconst 2, 1) := by decide +kernel
theorem dX7_lock_24 : decode cX7_lock 24 = .ok (.if_icmp .ne 28, 3) := by decide +kernel
theorem dX7_lock_27 : decode cX7_lock 27 = .ok (.aload_n 0, 1) := by decide +kernel
theorem dX7_lock_28 : decode cX7_lock 28 = .ok (.getfield 13, 3) := by decide +kernel
theorem dX7_lock_31 : decode cX7_lock 31 = .ok (.iload_n 1, 1) := by decide +kernel
theorem dX7_lock_32 : decode cX7_lock 32 = .ok (.iaload, 1) := by decide +kernel
theorem dX7_lock_33 : decode cX7_lock 33 = .ok (.aload_n 0, 1) := by decide +kernel
theorem dX7_lock_34 : decode cX7_lock 34 = .ok (.getfield 90, 3) := by decide +kernel
theorem dX7_lock_37 : decode cX7_lock 37 = .ok (.iload_n 2, 1) := by decide +kernel
theorem dX7_lock_38 : decode cX7_lock 38 = .ok (.iaload, 1) := by decide +kernel
theorem dX7_lock_39 : decode cX7_lock 39 = .ok (.if_icmp .le 13, 3) := by decide +kernel
theorem dX7_lock_42 : decode cX7_lock 42 = .ok (.aload_n 0, 1) := by decide +kernel
theorem dX7_lock_43 : decode cX7_lock 43 = .ok (.iload_n 1, 1) := by decide +kernel
theorem dX7_lock_44 : decode cX7_lock 44 = .ok (.iconst 1, 1) := by decide +kernel
theorem dX7_lock_45 : decode cX7_lock 45 = .ok (.iload_n 3, 1) := by decide +kernel
theorem dX7_lock_46 : decode cX7_lock 46 = .ok (.invokevirtual 159, 3) := by decide +kernel
theorem dX7_lock_49 : decode cX7_lock 49 = .ok (.goto 72, 3) := by decide +kernel
theorem dX7_lock_52 : decode cX7_lock 52 = .ok (.aload_n 0, 1) := by decide +kernel
theorem dX7_lock_53 : decode cX7_lock 53 = .ok (.getfield 93, 3) := by decide +kernel
theorem dX7_lock_56 : decode cX7_lock 56 = .ok (.iload_n 2, 1) := by decide +kernel
theorem dX7_lock_57 : decode cX7_lock 57 = .ok (.iaload, 1) := by decide +kernel
theorem dX7_lock_58 : decode cX7_lock 58 = .ok (.ifCond .lt 46, 3) := by decide +kernel
theorem dX7_lock_61 : decode cX7_lock 61 = .ok (.aload_n 0, 1) := by decide +kernel
theorem dX7_lock_62 : decode cX7_lock 62 = .ok (.getfield 42, 3) := by decide +kernel
theorem dX7_lock_65 : decode cX7_lock 65 = .ok (.iload_n 1, 1) := by decide +kernel
theorem dX7_lock_66 : decode cX7_lock 66 = .ok (.iconst 2, 1) := by decide +kernel
theorem dX7_lock_67 : decode cX7_lock 67 = .ok (.iastore, 1) := by decide +kernel
theorem dX7_lock_68 : decode cX7_lock 68 = .ok (.aload_n 0, 1) := by decide +kernel
theorem dX7_lock_69 : decode cX7_lock 69 = .ok (.getfield 60, 3) := by decide +kernel
theorem dX7_lock_72 : decode cX7_lock 72 = .ok (.iload_n 1, 1) := by decide +kernel
theorem dX7_lock_73 : decode cX7_lock 73 = .ok (.iload_n 2, 1) := by decide +kernel
theorem dX7_lock_74 : decode cX7_lock 74 = .ok (.iastore, 1) := by decide +kernel
theorem dX7_lock_75 : decode cX7_lock 75 = .ok (.aload_n 0, 1) := by decide +kernel
theorem dX7_lock_76 : decode cX7_lock 76 = .ok (.dup, 1) := by decide +kernel
theorem dX7_lock_77 : decode cX7_lock 77 = .ok (.getfield 142, 3) := by decide +kernel
theorem dX7_lock_80 : decode cX7_lock 80 = .ok (.iconst 1, 1) := by decide +kernel
theorem dX7_lock_81 : decode cX7_lock 81 = .ok (.iadd, 1) := by decide +kernel
theorem dX7_lock_82 : decode cX7_lock 82 = .ok (.putfield 142, 3) := by decide +kernel
theorem dX7_lock_85 : decode cX7_lock 85 = .ok (.aload_n 0, 1) := by decide +kernel
theorem dX7_lock_86 : decode cX7_lock 86 = .ok (.getfield 57, 3) := by decide +kernel
theorem dX7_lock_89 : decode cX7_lock 89 = .ok (.iload_n 1, 1) := by decide +kernel
theorem dX7_lock_90 : decode cX7_lock 90 = .ok (.aload_n 0, 1) := by decide +kernel
theorem dX7_lock_91 : decode cX7_lock 91 = .ok (.getfield 142, 3) := by decide +kernel
theorem dX7_lock_94 : decode cX7_lock 94 = .ok (.iastore, 1) := by decide +kernel
theorem dX7_lock_95 : decode cX7_lock 95 = .ok (.aload_n 0, 1) := by decide +kernel
theorem dX7_lock_96 : decode cX7_lock 96 = .ok (.iconst 5, 1) := by decide +kernel
theorem dX7_lock_97 : decode cX7_lock 97 = .ok (.iload_n 1, 1) := by decide +kernel
theorem dX7_lock_98 : decode cX7_lock 98 = .ok (.invokevirtual 145, 3) := by decide +kernel
theorem dX7_lock_101 : decode cX7_lock 101 = .ok (.goto 20, 3) := by decide +kernel
theorem dX7_lock_104 : decode cX7_lock 104 = .ok (.aload_n 0, 1) := by decide +kernel
theorem dX7_lock_105 : decode cX7_lock 105 = .ok (.getfield 93, 3) := by decide +kernel
theorem dX7_lock_108 : decode cX7_lock 108 = .ok (.iload_n 2, 1) := by decide +kernel
theorem dX7_lock_109 : decode cX7_lock 109 = .ok (.iload_n 1, 1) := by decide +kernel
theorem dX7_lock_110 : decode cX7_lock 110 = .ok (.iastore, 1) := by decide +kernel
theorem dX7_lock_111 : decode cX7_lock 111 = .ok (.aload_n 0, 1) := by decide +kernel
theorem dX7_lock_112 : decode cX7_lock 112 = .ok (.getfield 45, 3) := by decide +kernel
theorem dX7_lock_115 : decode cX7_lock 115 = .ok (.iload_n 1, 1) := by decide +kernel
theorem dX7_lock_116 : decode cX7_lock 116 = .ok (.dup2, 1) := by decide +kernel
theorem dX7_lock_117 : decode cX7_lock 117 = .ok (.iaload, 1) := by decide +kernel
theorem dX7_lock_118 : decode cX7_lock 118 = .ok (.iconst 1, 1) := by decide +kernel
theorem dX7_lock_119 : decode cX7_lock 119 = .ok (.iadd, 1) := by decide +kernel
theorem dX7_lock_120 : decode cX7_lock 120 = .ok (.iastore, 1) := by decide +kernel
theorem dX7_lock_121 : decode cX7_lock 121 = .ok (.return_, 1) := by decide +kernel
theorem dX7_release_0 : decode cX7_release 0 = .ok (.aload_n 0, 1) := by decide +kernel
theorem dX7_release_1 : decode cX7_release 1 = .ok (.iconst 0, 1) := by decide +kernel
theorem dX7_release_2 : decode cX7_release 2 = .ok (.putfield 109, 3) := by decide +kernel
theorem dX7_release_5 : decode cX7_release 5 = .ok (.aload_n 0, 1) := by decide +kernel
theorem dX7_release_6 : decode cX7_release 6 = .ok (.iload_n 1, 1) := by decide +kernel
theorem dX7_release_7 : decode cX7_release 7 = .ok (.invokevirtual 122, 3) := by decide +kernel
theorem dX7_release_10 : decode cX7_release 10 = .ok (.ifCond .eq 10, 3) := by decide +kernel
theorem dX7_release_13 : decode cX7_release 13 = .ok (.aload_n 0, 1) := by decide +kernel
theorem dX7_release_14 : decode cX7_release 14 = .ok (.getfield 119, 3) := by decide +kernel
theorem dX7_release_17 : decode cX7_release 17 = .ok (.ifCond .ne 5, 3) := by decide +kernel
theorem dX7_release_20 : decode cX7_release 20 = .ok (.iconst 0, 1) := by decide +kernel
theorem dX7_release_21 : decode cX7_release 21 = .ok (.ireturn, 1) := by decide +kernel
theorem dX7_release_22 : decode cX7_release 22 = .ok (.aload_n 0, 1) := by decide +kernel
theorem dX7_release_23 : decode cX7_release 23 = .ok (.getfield 17, 3) := by decide +kernel
theorem dX7_release_26 : decode cX7_release 26 = .ok (.iload_n 1, 1) := by decide +kernel
theorem dX7_release_27 : decode cX7_release 27 = .ok (.iaload, 1) := by decide +kernel
theorem dX7_release_28 : decode cX7_release 28 = .ok (.ifCond .le 5, 3) := by decide +kernel
theorem dX7_release_31 : decode cX7_release 31 = .ok (.iconst 0, 1) := by decide +kernel
theorem dX7_release_32 : decode cX7_release 32 = .ok (.ireturn, 1) := by decide +kernel
theorem dX7_release_33 : decode cX7_release 33 = .ok (.aload_n 0, 1) := by decide +kernel
theorem dX7_release_34 : decode cX7_release 34 = .ok (.iload_n 1, 1) := by decide +kernel
theorem dX7_release_35 : decode cX7_release 35 = .ok (.invokevirtual 167, 3) := by decide +kernel
theorem dX7_release_38 : decode cX7_release 38 = .ok (.iconst 1, 1) := by decide +kernel
theorem dX7_release_39 : decode cX7_release 39 = .ok (.ireturn, 1) := by decide +kernel
theorem dX7_arrivals_0 : decode cX7_arrivals 0 = .ok (.iconst 0, 1) := by decide +kernel
theorem dX7_arrivals_1 : decode cX7_arrivals 1 = .ok (.istore_n 1, 1) := by decide +kernel
theorem dX7_arrivals_2 : decode cX7_arrivals 2 = .ok (.iload_n 1, 1) := by decide +kernel
theorem dX7_arrivals_3 : decode cX7_arrivals 3 = .ok (.aload_n 0, 1) := by decide +kernel
theorem dX7_arrivals_4 : decode cX7_arrivals 4 = .ok (.getfield 112, 3) := by decide +kernel
theorem dX7_arrivals_7 : decode cX7_arrivals 7 = .ok (.if_icmp .ge 66, 3) := by decide +kernel
theorem dX7_arrivals_10 : decode cX7_arrivals 10 = .ok (.aload_n 0, 1) := by decide +kernel
theorem dX7_arrivals_11 : decode cX7_arrivals 11 = .ok (.getfield 42, 3) := by decide +kernel
theorem dX7_arrivals_14 : decode cX7_arrivals 14 = .ok (.iload_n 1, 1) := by decide +kernel
theorem dX7_arrivals_15 : decode cX7_arrivals 15 = .ok (.iaload, 1) := by decide +kernel
theorem dX7_arrivals_16 : decode cX7_arrivals 16 = .ok (.ifCond .eq 51, 3) := by decide +kernel
theorem dX7_arrivals_19 : decode cX7_arrivals 19 = .ok (.aload_n 0, 1) := by decide +kernel
theorem dX7_arrivals_20 : decode cX7_arrivals 20 = .ok (.getfield 51, 3) := by decide +kernel
theorem dX7_arrivals_23 : decode cX7_arrivals 23 = .ok (.iload_n 1, 1) := by decide +kernel
theorem dX7_arrivals_24 : decode cX7_arrivals 24 = .ok (.iaload, 1) := by decide +kernel
theorem dX7_arrivals_25 : decode cX7_arrivals 25 = .ok (.aload_n 0, 1) := by decide +kernel
theorem dX7_arrivals_26 : decode cX7_arrivals 26 = .ok (.getfield 139, 3) := by decide +kernel
theorem dX7_arrivals_29 : decode cX7_arrivals 29 = .ok (.if_icmp .ne 38, 3) := by decide +kernel
theorem dX7_arrivals_32 : decode cX7_arrivals 32 = .ok (.aload_n 0, 1) := by decide +kernel
theorem dX7_arrivals_33 : decode cX7_arrivals 33 = .ok (.getfield 75, 3) := by decide +kernel
theorem dX7_arrivals_36 : decode cX7_arrivals 36 = .ok (.iload_n 1, 1) := by decide +kernel
theorem dX7_arrivals_37 : decode cX7_arrivals 37 = .ok (.dup2, 1) := by decide +kernel
theorem dX7_arrivals_38 : decode cX7_arrivals 38 = .ok (.iaload, 1) := by decide +kernel
theorem dX7_arrivals_39 : decode cX7_arrivals 39 = .ok (.iconst 1, 1) := by decide +kernel
theorem dX7_arrivals_40 : decode cX7_arrivals 40 = .ok (.iadd, 1) := by decide +kernel
theorem dX7_arrivals_41 : decode cX7_arrivals 41 = .ok (.iastore, 1) := by decide +kernel
theorem dX7_arrivals_42 : decode cX7_arrivals 42 = .ok (.aload_n 0, 1) := by decide +kernel
theorem dX7_arrivals_43 : decode cX7_arrivals 43 = .ok (.iconst 4, 1) := by decide +kernel
theorem dX7_arrivals_44 : decode cX7_arrivals 44 = .ok (.iload_n 1, 1) := by decide +kernel
theorem dX7_arrivals_45 : decode cX7_arrivals 45 = .ok (.invokevirtual 145, 3) := by decide +kernel
theorem dX7_arrivals_48 : decode cX7_arrivals 48 = .ok (.aload_n 0, 1) := by decide +kernel
theorem dX7_arrivals_49 : decode cX7_arrivals 49 = .ok (.getfield 29, 3) := by decide +kernel
theorem dX7_arrivals_52 : decode cX7_arrivals 52 = .ok (.iload_n 1, 1) := by decide +kernel
theorem dX7_arrivals_53 : decode cX7_arrivals 53 = .ok (.baload, 1) := by decide +kernel
theorem dX7_arrivals_54 : decode cX7_arrivals 54 = .ok (.ifCond .eq 13, 3) := by decide +kernel
theorem dX7_arrivals_57 : decode cX7_arrivals 57 = .ok (.aload_n 0, 1) := by decide +kernel
theorem dX7_arrivals_58 : decode cX7_arrivals 58 = .ok (.iload_n 1, 1) := by decide +kernel
theorem dX7_arrivals_59 : decode cX7_arrivals 59 = .ok (.iconst 1, 1) := by decide +kernel
theorem dX7_arrivals_60 : decode cX7_arrivals 60 = .ok (.aload_n 0, 1) := by decide +kernel
theorem dX7_arrivals_61 : decode cX7_arrivals 61 = .ok (.getfield 139, 3) := by decide +kernel
theorem dX7_arrivals_64 : decode cX7_arrivals 64 = .ok (.invokevirtual 159, 3) := by decide +kernel
theorem dX7_arrivals_67 : decode cX7_arrivals 67 = .ok (.iinc 1 1, 3) := by decide +kernel
theorem dX7_arrivals_70 : decode cX7_arrivals 70 = .ok (.goto (-68), 3) := by decide +kernel
theorem dX7_arrivals_73 : decode cX7_arrivals 73 = .ok (.iconst 0, 1) := by decide +kernel
theorem dX7_arrivals_74 : decode cX7_arrivals 74 = .ok (.istore_n 1, 1) := by decide +kernel
theorem dX7_arrivals_75 : decode cX7_arrivals 75 = .ok (.iload_n 1, 1) := by decide +kernel
theorem dX7_arrivals_76 : decode cX7_arrivals 76 = .ok (.aload_n 0, 1) := by decide +kernel
theorem dX7_arrivals_77 : decode cX7_arrivals 77 = .ok (.getfield 112, 3) := by decide +kernel
theorem dX7_arrivals_80 : decode cX7_arrivals 80 = .ok (.if_icmp .ge 57, 3) := by decide +kernel
theorem dX7_arrivals_83 : decode cX7_arrivals 83 = .ok (.aload_n 0, 1) := by decide +kernel
theorem dX7_arrivals_84 : decode cX7_arrivals 84 = .ok (.getfield 17, 3) := by decide +kernel
theorem dX7_arrivals_87 : decode cX7_arrivals 87 = .ok (.iload_n 1, 1) := by decide +kernel
theorem dX7_arrivals_88 : decode cX7_arrivals 88 = .ok (.iaload, 1) := by decide +kernel
theorem dX7_arrivals_89 : decode cX7_arrivals 89 = .ok (.ifCond .le 42, 3) := by decide +kernel
theorem dX7_arrivals_92 : decode cX7_arrivals 92 = .ok (.aload_n 0, 1) := by decide +kernel
theorem dX7_arrivals_93 : decode cX7_arrivals 93 = .ok (.getfield 139, 3) := by decide +kernel
theorem dX7_arrivals_96 : decode cX7_arrivals 96 = .ok (.aload_n 0, 1) := by decide +kernel
theorem dX7_arrivals_97 : decode cX7_arrivals 97 = .ok (.getfield 20, 3) := by decide +kernel
theorem dX7_arrivals_100 : decode cX7_arrivals 100 = .ok (.iload_n 1, 1) := by decide +kernel
theorem dX7_arrivals_101 : decode cX7_arrivals 101 = .ok (.iaload, 1) := by decide +kernel
theorem dX7_arrivals_102 : decode cX7_arrivals 102 = .ok (.if_icmp .lt 29, 3) := by decide +kernel
theorem dX7_arrivals_105 : decode cX7_arrivals 105 = .ok (.aload_n 0, 1) := by decide +kernel
theorem dX7_arrivals_106 : decode cX7_arrivals 106 = .ok (.getfield 139, 3) := by decide +kernel
theorem dX7_arrivals_109 : decode cX7_arrivals 109 = .ok (.aload_n 0, 1) := by decide +kernel
theorem dX7_arrivals_110 : decode cX7_arrivals 110 = .ok (.getfield 20, 3) := by decide +kernel
theorem dX7_arrivals_113 : decode cX7_arrivals 113 = .ok (.iload_n 1, 1) := by decide +kernel
theorem dX7_arrivals_114 : decode cX7_arrivals 114 = .ok (.iaload, 1) := by decide +kernel
theorem dX7_arrivals_115 : decode cX7_arrivals 115 = .ok (.isub, 1) := by decide +kernel
theorem dX7_arrivals_116 : decode cX7_arrivals 116 = .ok (.aload_n 0, 1) := by decide +kernel
theorem dX7_arrivals_117 : decode cX7_arrivals 117 = .ok (.getfield 17, 3) := by decide +kernel
theorem dX7_arrivals_120 : decode cX7_arrivals 120 = .ok (.iload_n 1, 1) := by decide +kernel
theorem dX7_arrivals_121 : decode cX7_arrivals 121 = .ok (.iaload, 1) := by decide +kernel
theorem dX7_arrivals_122 : decode cX7_arrivals 122 = .ok (.irem, 1) := by decide +kernel
theorem dX7_arrivals_123 : decode cX7_arrivals 123 = .ok (.ifCond .ne 8, 3) := by decide +kernel
theorem dX7_arrivals_126 : decode cX7_arrivals 126 = .ok (.aload_n 0, 1) := by decide +kernel
theorem dX7_arrivals_127 : decode cX7_arrivals 127 = .ok (.iload_n 1, 1) := by decide +kernel
theorem dX7_arrivals_128 : decode cX7_arrivals 128 = .ok (.invokevirtual 167, 3) := by decide +kernel
theorem dX7_arrivals_131 : decode cX7_arrivals 131 = .ok (.iinc 1 1, 3) := by decide +kernel
theorem dX7_arrivals_134 : decode cX7_arrivals 134 = .ok (.goto (-59), 3) := by decide +kernel
theorem dX7_arrivals_137 : decode cX7_arrivals 137 = .ok (.return_, 1) := by decide +kernel
theorem dX7_work_0 : decode cX7_work 0 = .ok (.bipush 10, 2) := by decide +kernel
theorem dX7_work_2 : decode cX7_work 2 = .ok (.iload_n 1, 1) := by decide +kernel
theorem dX7_work_3 : decode cX7_work 3 = .ok (.imul, 1) := by decide +kernel
theorem dX7_work_4 : decode cX7_work 4 = .ok (.aload_n 0, 1) := by decide +kernel
theorem dX7_work_5 : decode cX7_work 5 = .ok (.getfield 45, 3) := by decide +kernel
theorem dX7_work_8 : decode cX7_work 8 = .ok (.iload_n 1, 1) := by decide +kernel
theorem dX7_work_9 : decode cX7_work 9 = .ok (.iaload, 1) := by decide +kernel
theorem dX7_work_10 : decode cX7_work 10 = .ok (.iadd, 1) := by decide +kernel
theorem dX7_work_11 : decode cX7_work 11 = .ok (.istore_n 2, 1) := by decide +kernel
theorem dX7_work_12 : decode cX7_work 12 = .ok (.aload_n 0, 1) := by decide +kernel
theorem dX7_work_13 : decode cX7_work 13 = .ok (.getfield 48, 3) := by decide +kernel
theorem dX7_work_16 : decode cX7_work 16 = .ok (.iload_n 1, 1) := by decide +kernel
theorem dX7_work_17 : decode cX7_work 17 = .ok (.aload_n 0, 1) := by decide +kernel
theorem dX7_work_18 : decode cX7_work 18 = .ok (.getfield 48, 3) := by decide +kernel
theorem dX7_work_21 : decode cX7_work 21 = .ok (.iload_n 1, 1) := by decide +kernel
theorem dX7_work_22 : decode cX7_work 22 = .ok (.iaload, 1) := by decide +kernel
theorem dX7_work_23 : decode cX7_work 23 = .ok (.ifCond .ne 12, 3) := by decide +kernel
theorem dX7_work_26 : decode cX7_work 26 = .ok (.aload_n 0, 1) := by decide +kernel
theorem dX7_work_27 : decode cX7_work 27 = .ok (.getfield 39, 3) := by decide +kernel
theorem dX7_work_30 : decode cX7_work 30 = .ok (.iload_n 2, 1) := by decide +kernel
theorem dX7_work_31 : decode cX7_work 31 = .ok (.iaload, 1) := by decide +kernel
theorem dX7_work_32 : decode cX7_work 32 = .ok (.goto 9, 3) := by decide +kernel
theorem dX7_work_35 : decode cX7_work 35 = .ok (.aload_n 0, 1) := by decide +kernel
theorem dX7_work_36 : decode cX7_work 36 = .ok (.getfield 48, 3) := by decide +kernel
theorem dX7_work_39 : decode cX7_work 39 = .ok (.iload_n 1, 1) := by decide +kernel
theorem dX7_work_40 : decode cX7_work 40 = .ok (.iaload, 1) := by decide +kernel
theorem dX7_work_41 : decode cX7_work 41 = .ok (.iastore, 1) := by decide +kernel
theorem dX7_work_42 : decode cX7_work 42 = .ok (.aload_n 0, 1) := by decide +kernel
theorem dX7_work_43 : decode cX7_work 43 = .ok (.getfield 48, 3) := by decide +kernel
theorem dX7_work_46 : decode cX7_work 46 = .ok (.iload_n 1, 1) := by decide +kernel
theorem dX7_work_47 : decode cX7_work 47 = .ok (.dup2, 1) := by decide +kernel
theorem dX7_work_48 : decode cX7_work 48 = .ok (.iaload, 1) := by decide +kernel
theorem dX7_work_49 : decode cX7_work 49 = .ok (.iconst 1, 1) := by decide +kernel
theorem dX7_work_50 : decode cX7_work 50 = .ok (.isub, 1) := by decide +kernel
theorem dX7_work_51 : decode cX7_work 51 = .ok (.iastore, 1) := by decide +kernel
theorem dX7_work_52 : decode cX7_work 52 = .ok (.aload_n 0, 1) := by decide +kernel
theorem dX7_work_53 : decode cX7_work 53 = .ok (.getfield 81, 3) := by decide +kernel
theorem dX7_work_56 : decode cX7_work 56 = .ok (.iload_n 1, 1) := by decide +kernel
theorem dX7_work_57 : decode cX7_work 57 = .ok (.dup2, 1) := by decide +kernel
theorem dX7_work_58 : decode cX7_work 58 = .ok (.iaload, 1) := by decide +kernel
theorem dX7_work_59 : decode cX7_work 59 = .ok (.iconst 1, 1) := by decide +kernel
theorem dX7_work_60 : decode cX7_work 60 = .ok (.iadd, 1) := by decide +kernel
theorem dX7_work_61 : decode cX7_work 61 = .ok (.iastore, 1) := by decide +kernel
theorem dX7_work_62 : decode cX7_work 62 = .ok (.aload_n 0, 1) := by decide +kernel
theorem dX7_work_63 : decode cX7_work 63 = .ok (.getfield 63, 3) := by decide +kernel
theorem dX7_work_66 : decode cX7_work 66 = .ok (.iload_n 1, 1) := by decide +kernel
theorem dX7_work_67 : decode cX7_work 67 = .ok (.dup2, 1) := by decide +kernel
theorem dX7_work_68 : decode cX7_work 68 = .ok (.iaload, 1) := by decide +kernel
theorem dX7_work_69 : decode cX7_work 69 = .ok (.iconst 1, 1) := by decide +kernel
theorem dX7_work_70 : decode cX7_work 70 = .ok (.iadd, 1) := by decide +kernel
theorem dX7_work_71 : decode cX7_work 71 = .ok (.iastore, 1) := by decide +kernel
theorem dX7_work_72 : decode cX7_work 72 = .ok (.aload_n 0, 1) := by decide +kernel
theorem dX7_work_73 : decode cX7_work 73 = .ok (.iload_n 1, 1) := by decide +kernel
theorem dX7_work_74 : decode cX7_work 74 = .ok (.putfield 7, 3) := by decide +kernel
theorem dX7_work_77 : decode cX7_work 77 = .ok (.aload_n 0, 1) := by decide +kernel
theorem dX7_work_78 : decode cX7_work 78 = .ok (.getfield 63, 3) := by decide +kernel
theorem dX7_work_81 : decode cX7_work 81 = .ok (.iload_n 1, 1) := by decide +kernel
theorem dX7_work_82 : decode cX7_work 82 = .ok (.iaload, 1) := by decide +kernel
theorem dX7_work_83 : decode cX7_work 83 = .ok (.aload_n 0, 1) := by decide +kernel
theorem dX7_work_84 : decode cX7_work 84 = .ok (.getfield 26, 3) := by decide +kernel
theorem dX7_work_87 : decode cX7_work 87 = .ok (.iload_n 1, 1) := by decide +kernel
theorem dX7_work_88 : decode cX7_work 88 = .ok (.iaload, 1) := by decide +kernel
theorem dX7_work_89 : decode cX7_work 89 = .ok (.iconst 1, 1) := by decide +kernel
theorem dX7_work_90 : decode cX7_work 90 = .ok (.iadd, 1) := by decide +kernel
theorem dX7_work_91 : decode cX7_work 91 = .ok (.if_icmp .ne 10, 3) := by decide +kernel
theorem dX7_work_94 : decode cX7_work 94 = .ok (.aload_n 0, 1) := by decide +kernel
theorem dX7_work_95 : decode cX7_work 95 = .ok (.bipush 7, 2) := by decide +kernel
theorem dX7_work_97 : decode cX7_work 97 = .ok (.iload_n 1, 1) := by decide +kernel
theorem dX7_work_98 : decode cX7_work 98 = .ok (.invokevirtual 145, 3) := by decide +kernel
theorem dX7_work_101 : decode cX7_work 101 = .ok (.aload_n 0, 1) := by decide +kernel
theorem dX7_work_102 : decode cX7_work 102 = .ok (.getfield 48, 3) := by decide +kernel
theorem dX7_work_105 : decode cX7_work 105 = .ok (.iload_n 1, 1) := by decide +kernel
theorem dX7_work_106 : decode cX7_work 106 = .ok (.iaload, 1) := by decide +kernel
theorem dX7_work_107 : decode cX7_work 107 = .ok (.ifCond .ne 24, 3) := by decide +kernel
theorem dX7_work_110 : decode cX7_work 110 = .ok (.aload_n 0, 1) := by decide +kernel
theorem dX7_work_111 : decode cX7_work 111 = .ok (.getfield 45, 3) := by decide +kernel
theorem dX7_work_114 : decode cX7_work 114 = .ok (.iload_n 1, 1) := by decide +kernel
theorem dX7_work_115 : decode cX7_work 115 = .ok (.dup2, 1) := by decide +kernel
theorem dX7_work_116 : decode cX7_work 116 = .ok (.iaload, 1) := by decide +kernel
theorem dX7_work_117 : decode cX7_work 117 = .ok (.iconst 1, 1) := by decide +kernel
theorem dX7_work_118 : decode cX7_work 118 = .ok (.iadd, 1) := by decide +kernel
theorem dX7_work_119 : decode cX7_work 119 = .ok (.iastore, 1) := by decide +kernel
theorem dX7_work_120 : decode cX7_work 120 = .ok (.aload_n 0, 1) := by decide +kernel
theorem dX7_work_121 : decode cX7_work 121 = .ok (.iload_n 1, 1) := by decide +kernel
theorem dX7_work_122 : decode cX7_work 122 = .ok (.aload_n 0, 1) := by decide +kernel
theorem dX7_work_123 : decode cX7_work 123 = .ok (.getfield 139, 3) := by decide +kernel
theorem dX7_work_126 : decode cX7_work 126 = .ok (.iconst 1, 1) := by decide +kernel
theorem dX7_work_127 : decode cX7_work 127 = .ok (.iadd, 1) := by decide +kernel
theorem dX7_work_128 : decode cX7_work 128 = .ok (.invokevirtual 170, 3) := by decide +kernel
theorem dX7_work_131 : decode cX7_work 131 = .ok (.return_, 1) := by decide +kernel
theorem dX7_pass_0 : decode cX7_pass 0 = .ok (.aload_n 0, 1) := by decide +kernel
theorem dX7_pass_1 : decode cX7_pass 1 = .ok (.invokevirtual 173, 3) := by decide +kernel
theorem dX7_pass_4 : decode cX7_pass 4 = .ok (.aload_n 0, 1) := by decide +kernel
theorem dX7_pass_5 : decode cX7_pass 5 = .ok (.invokevirtual 176, 3) := by decide +kernel
theorem dX7_pass_8 : decode cX7_pass 8 = .ok (.istore_n 1, 1) := by decide +kernel
theorem dX7_pass_9 : decode cX7_pass 9 = .ok (.iload_n 1, 1) := by decide +kernel
theorem dX7_pass_10 : decode cX7_pass 10 = .ok (.ifCond .lt 28, 3) := by decide +kernel
theorem dX7_pass_13 : decode cX7_pass 13 = .ok (.aload_n 0, 1) := by decide +kernel
theorem dX7_pass_14 : decode cX7_pass 14 = .ok (.iload_n 1, 1) := by decide +kernel
theorem dX7_pass_15 : decode cX7_pass 15 = .ok (.invokevirtual 156, 3) := by decide +kernel
theorem dX7_pass_18 : decode cX7_pass 18 = .ok (.ifCond .ne 20, 3) := by decide +kernel
theorem dX7_pass_21 : decode cX7_pass 21 = .ok (.aload_n 0, 1) := by decide +kernel
theorem dX7_pass_22 : decode cX7_pass 22 = .ok (.iload_n 1, 1) := by decide +kernel
theorem dX7_pass_23 : decode cX7_pass 23 = .ok (.aload_n 0, 1) := by decide +kernel
theorem dX7_pass_24 : decode cX7_pass 24 = .ok (.getfield 139, 3) := by decide +kernel
theorem dX7_pass_27 : decode cX7_pass 27 = .ok (.invokevirtual 170, 3) := by decide +kernel
theorem dX7_pass_30 : decode cX7_pass 30 = .ok (.aload_n 0, 1) := by decide +kernel
theorem dX7_pass_31 : decode cX7_pass 31 = .ok (.invokevirtual 176, 3) := by decide +kernel
theorem dX7_pass_34 : decode cX7_pass 34 = .ok (.istore_n 1, 1) := by decide +kernel
theorem dX7_pass_35 : decode cX7_pass 35 = .ok (.goto (-26), 3) := by decide +kernel
theorem dX7_pass_38 : decode cX7_pass 38 = .ok (.iload_n 1, 1) := by decide +kernel
theorem dX7_pass_39 : decode cX7_pass 39 = .ok (.ifCond .lt 8, 3) := by decide +kernel
theorem dX7_pass_42 : decode cX7_pass 42 = .ok (.aload_n 0, 1) := by decide +kernel
theorem dX7_pass_43 : decode cX7_pass 43 = .ok (.iload_n 1, 1) := by decide +kernel
theorem dX7_pass_44 : decode cX7_pass 44 = .ok (.invokevirtual 180, 3) := by decide +kernel
theorem dX7_pass_47 : decode cX7_pass 47 = .ok (.aload_n 0, 1) := by decide +kernel
theorem dX7_pass_48 : decode cX7_pass 48 = .ok (.dup, 1) := by decide +kernel
theorem dX7_pass_49 : decode cX7_pass 49 = .ok (.getfield 139, 3) := by decide +kernel
theorem dX7_pass_52 : decode cX7_pass 52 = .ok (.iconst 1, 1) := by decide +kernel
theorem dX7_pass_53 : decode cX7_pass 53 = .ok (.iadd, 1) := by decide +kernel
theorem dX7_pass_54 : decode cX7_pass 54 = .ok (.putfield 139, 3) := by decide +kernel
theorem dX7_pass_57 : decode cX7_pass 57 = .ok (.iload_n 1, 1) := by decide +kernel
theorem dX7_pass_58 : decode cX7_pass 58 = .ok (.ifCond .lt 7, 3) := by decide +kernel
theorem dX7_pass_61 : decode cX7_pass 61 = .ok (.iconst 1, 1) := by decide +kernel
theorem dX7_pass_62 : decode cX7_pass 62 = .ok (.goto 4, 3) := by decide +kernel
theorem dX7_pass_65 : decode cX7_pass 65 = .ok (.iconst 0, 1) := by decide +kernel
theorem dX7_pass_66 : decode cX7_pass 66 = .ok (.ireturn, 1) := by decide +kernel
theorem dX7_tick_0 : decode cX7_tick 0 = .ok (.aload_n 0, 1) := by decide +kernel
theorem dX7_tick_1 : decode cX7_tick 1 = .ok (.iload_n 1, 1) := by decide +kernel
theorem dX7_tick_2 : decode cX7_tick 2 = .ok (.iconst 0, 1) := by decide +kernel
theorem dX7_tick_3 : decode cX7_tick 3 = .ok (.sipush 500, 3) := by decide +kernel
theorem dX7_tick_6 : decode cX7_tick 6 = .ok (.invokestatic 115, 3) := by decide +kernel
theorem dX7_tick_9 : decode cX7_tick 9 = .ok (.ifCond .ne 7, 3) := by decide +kernel
theorem dX7_tick_12 : decode cX7_tick 12 = .ok (.iconst 1, 1) := by decide +kernel
theorem dX7_tick_13 : decode cX7_tick 13 = .ok (.goto 15, 3) := by decide +kernel
theorem dX7_tick_16 : decode cX7_tick 16 = .ok (.aload_n 0, 1) := by decide +kernel
theorem dX7_tick_17 : decode cX7_tick 17 = .ok (.getfield 119, 3) := by decide +kernel
theorem dX7_tick_20 : decode cX7_tick 20 = .ok (.ifCond .ne 7, 3) := by decide +kernel
theorem dX7_tick_23 : decode cX7_tick 23 = .ok (.iconst 2, 1) := by decide +kernel
theorem dX7_tick_24 : decode cX7_tick 24 = .ok (.goto 4, 3) := by decide +kernel
theorem dX7_tick_27 : decode cX7_tick 27 = .ok (.iconst 0, 1) := by decide +kernel
theorem dX7_tick_28 : decode cX7_tick 28 = .ok (.putfield 109, 3) := by decide +kernel
theorem dX7_tick_31 : decode cX7_tick 31 = .ok (.iconst 0, 1) := by decide +kernel
theorem dX7_tick_32 : decode cX7_tick 32 = .ok (.istore_n 2, 1) := by decide +kernel
theorem dX7_tick_33 : decode cX7_tick 33 = .ok (.iconst 0, 1) := by decide +kernel
theorem dX7_tick_34 : decode cX7_tick 34 = .ok (.istore_n 3, 1) := by decide +kernel
theorem dX7_tick_35 : decode cX7_tick 35 = .ok (.iload_n 3, 1) := by decide +kernel
theorem dX7_tick_36 : decode cX7_tick 36 = .ok (.iload_n 1, 1) := by decide +kernel
theorem dX7_tick_37 : decode cX7_tick 37 = .ok (.if_icmp .ge 31, 3) := by decide +kernel
theorem dX7_tick_40 : decode cX7_tick 40 = .ok (.aload_n 0, 1) := by decide +kernel
theorem dX7_tick_41 : decode cX7_tick 41 = .ok (.getfield 109, 3) := by decide +kernel
theorem dX7_tick_44 : decode cX7_tick 44 = .ok (.ifCond .ne 24, 3) := by decide +kernel
theorem dX7_tick_47 : decode cX7_tick 47 = .ok (.iload_n 2, 1) := by decide +kernel
theorem dX7_tick_48 : decode cX7_tick 48 = .ok (.aload_n 0, 1) := by decide +kernel
theorem dX7_tick_49 : decode cX7_tick 49 = .ok (.invokevirtual 183, 3) := by decide +kernel
theorem dX7_tick_52 : decode cX7_tick 52 = .ok (.ifCond .eq 7, 3) := by decide +kernel
theorem dX7_tick_55 : decode cX7_tick 55 = .ok (.iconst 1, 1) := by decide +kernel
theorem dX7_tick_56 : decode cX7_tick 56 = .ok (.goto 4, 3) := by decide +kernel
theorem dX7_tick_59 : decode cX7_tick 59 = .ok (.iconst 0, 1) := by decide +kernel
theorem dX7_tick_60 : decode cX7_tick 60 = .ok (.iadd, 1) := by decide +kernel
theorem dX7_tick_61 : decode cX7_tick 61 = .ok (.istore_n 2, 1) := by decide +kernel
theorem dX7_tick_62 : decode cX7_tick 62 = .ok (.iinc 3 1, 3) := by decide +kernel
theorem dX7_tick_65 : decode cX7_tick 65 = .ok (.goto (-30), 3) := by decide +kernel
theorem dX7_tick_68 : decode cX7_tick 68 = .ok (.iload_n 2, 1) := by decide +kernel
theorem dX7_tick_69 : decode cX7_tick 69 = .ok (.ireturn, 1) := by decide +kernel
theorem dX7_seen_0 : decode cX7_seen 0 = .ok (.aload_n 0, 1) := by decide +kernel
theorem dX7_seen_1 : decode cX7_seen 1 = .ok (.iconst 0, 1) := by decide +kernel
theorem dX7_seen_2 : decode cX7_seen 2 = .ok (.putfield 109, 3) := by decide +kernel
theorem dX7_seen_5 : decode cX7_seen 5 = .ok (.aload_n 0, 1) := by decide +kernel
theorem dX7_seen_6 : decode cX7_seen 6 = .ok (.iload_n 1, 1) := by decide +kernel
theorem dX7_seen_7 : decode cX7_seen 7 = .ok (.invokevirtual 122, 3) := by decide +kernel
theorem dX7_seen_10 : decode cX7_seen 10 = .ok (.ifCond .eq 13, 3) := by decide +kernel
theorem dX7_seen_13 : decode cX7_seen 13 = .ok (.iload_n 2, 1) := by decide +kernel
theorem dX7_seen_14 : decode cX7_seen 14 = .ok (.ifCond .lt 9, 3) := by decide +kernel
theorem dX7_seen_17 : decode cX7_seen 17 = .ok (.iload_n 2, 1) := by decide +kernel
theorem dX7_seen_18 : decode cX7_seen 18 = .ok (.bipush 9, 2) := by decide +kernel
theorem dX7_seen_20 : decode cX7_seen 20 = .ok (.if_icmp .le 5, 3) := by decide +kernel
theorem dX7_seen_23 : decode cX7_seen 23 = .ok (.iconst (-1), 1) := by decide +kernel
theorem dX7_seen_24 : decode cX7_seen 24 = .ok (.ireturn, 1) := by decide +kernel
theorem dX7_seen_25 : decode cX7_seen 25 = .ok (.iload_n 2, 1) := by decide +kernel
theorem dX7_seen_26 : decode cX7_seen 26 = .ok (.iconst 2, 1) := by decide +kernel
theorem dX7_seen_27 : decode cX7_seen 27 = .ok (.if_icmp .ne 27, 3) := by decide +kernel
theorem dX7_seen_30 : decode cX7_seen 30 = .ok (.aload_n 0, 1) := by decide +kernel
theorem dX7_seen_31 : decode cX7_seen 31 = .ok (.invokevirtual 133, 3) := by decide +kernel
theorem dX7_seen_34 : decode cX7_seen 34 = .ok (.aload_n 0, 1) := by decide +kernel
theorem dX7_seen_35 : decode cX7_seen 35 = .ok (.getfield 42, 3) := by decide +kernel
theorem dX7_seen_38 : decode cX7_seen 38 = .ok (.iload_n 1, 1) := by decide +kernel
theorem dX7_seen_39 : decode cX7_seen 39 = .ok (.iaload, 1) := by decide +kernel
theorem dX7_seen_40 : decode cX7_seen 40 = .ok (.ifCond .ne 7, 3) := by decide +kernel
theorem dX7_seen_43 : decode cX7_seen 43 = .ok (.iconst 0, 1) := by decide +kernel
theorem dX7_seen_44 : decode cX7_seen 44 = .ok (.goto 9, 3) := by decide +kernel
theorem dX7_seen_47 : decode cX7_seen 47 = .ok (.aload_n 0, 1) := by decide +kernel
theorem dX7_seen_48 : decode cX7_seen 48 = .ok (.getfield 66, 3) := by decide +kernel
theorem dX7_seen_51 : decode cX7_seen 51 = .ok (.iload_n 1, 1) := by decide +kernel
theorem dX7_seen_52 : decode cX7_seen 52 = .ok (.iaload, 1) := by decide +kernel
theorem dX7_seen_53 : decode cX7_seen 53 = .ok (.ireturn, 1) := by decide +kernel
theorem dX7_seen_54 : decode cX7_seen 54 = .ok (.iload_n 2, 1) := by decide +kernel
theorem dX7_seen_55 : decode cX7_seen 55 = .ok (.iconst 2, 1) := by decide +kernel
theorem dX7_seen_56 : decode cX7_seen 56 = .ok (.if_icmp .ge 36, 3) := by decide +kernel
theorem dX7_seen_59 : decode cX7_seen 59 = .ok (.iload_n 2, 1) := by decide +kernel
theorem dX7_seen_60 : decode cX7_seen 60 = .ok (.ifCond .ne 12, 3) := by decide +kernel
theorem dX7_seen_63 : decode cX7_seen 63 = .ok (.aload_n 0, 1) := by decide +kernel
theorem dX7_seen_64 : decode cX7_seen 64 = .ok (.getfield 42, 3) := by decide +kernel
theorem dX7_seen_67 : decode cX7_seen 67 = .ok (.iload_n 1, 1) := by decide +kernel
theorem dX7_seen_68 : decode cX7_seen 68 = .ok (.iaload, 1) := by decide +kernel
theorem dX7_seen_69 : decode cX7_seen 69 = .ok (.goto 22, 3) := by decide +kernel
theorem dX7_seen_72 : decode cX7_seen 72 = .ok (.aload_n 0, 1) := by decide +kernel
theorem dX7_seen_73 : decode cX7_seen 73 = .ok (.getfield 42, 3) := by decide +kernel
theorem dX7_seen_76 : decode cX7_seen 76 = .ok (.iload_n 1, 1) := by decide +kernel
theorem dX7_seen_77 : decode cX7_seen 77 = .ok (.iaload, 1) := by decide +kernel
theorem dX7_seen_78 : decode cX7_seen 78 = .ok (.ifCond .ne 7, 3) := by decide +kernel
theorem dX7_seen_81 : decode cX7_seen 81 = .ok (.iconst (-1), 1) := by decide +kernel
theorem dX7_seen_82 : decode cX7_seen 82 = .ok (.goto 9, 3) := by decide +kernel
theorem dX7_seen_85 : decode cX7_seen 85 = .ok (.aload_n 0, 1) := by decide +kernel
theorem dX7_seen_86 : decode cX7_seen 86 = .ok (.getfield 45, 3) := by decide +kernel
theorem dX7_seen_89 : decode cX7_seen 89 = .ok (.iload_n 1, 1) := by decide +kernel
theorem dX7_seen_90 : decode cX7_seen 90 = .ok (.iaload, 1) := by decide +kernel
theorem dX7_seen_91 : decode cX7_seen 91 = .ok (.ireturn, 1) := by decide +kernel
theorem dX7_seen_92 : decode cX7_seen 92 = .ok (.iload_n 2, 1) := by decide +kernel
theorem dX7_seen_93 : decode cX7_seen 93 = .ok (.iconst 3, 1) := by decide +kernel
theorem dX7_seen_94 : decode cX7_seen 94 = .ok (.if_icmp .ne 12, 3) := by decide +kernel
theorem dX7_seen_97 : decode cX7_seen 97 = .ok (.aload_n 0, 1) := by decide +kernel
theorem dX7_seen_98 : decode cX7_seen 98 = .ok (.getfield 69, 3) := by decide +kernel
theorem dX7_seen_101 : decode cX7_seen 101 = .ok (.iload_n 1, 1) := by decide +kernel
theorem dX7_seen_102 : decode cX7_seen 102 = .ok (.iaload, 1) := by decide +kernel
theorem dX7_seen_103 : decode cX7_seen 103 = .ok (.goto 82, 3) := by decide +kernel
theorem dX7_seen_106 : decode cX7_seen 106 = .ok (.iload_n 2, 1) := by decide +kernel
theorem dX7_seen_107 : decode cX7_seen 107 = .ok (.iconst 4, 1) := by decide +kernel
theorem dX7_seen_108 : decode cX7_seen 108 = .ok (.if_icmp .ne 12, 3) := by decide +kernel
theorem dX7_seen_111 : decode cX7_seen 111 = .ok (.aload_n 0, 1) := by decide +kernel
theorem dX7_seen_112 : decode cX7_seen 112 = .ok (.getfield 72, 3) := by decide +kernel
theorem dX7_seen_115 : decode cX7_seen 115 = .ok (.iload_n 1, 1) := by decide +kernel
theorem dX7_seen_116 : decode cX7_seen 116 = .ok (.iaload, 1) := by decide +kernel
theorem dX7_seen_117 : decode cX7_seen 117 = .ok (.goto 68, 3) := by decide +kernel
theorem dX7_seen_120 : decode cX7_seen 120 = .ok (.iload_n 2, 1) := by decide +kernel
theorem dX7_seen_121 : decode cX7_seen 121 = .ok (.iconst 5, 1) := by decide +kernel
theorem dX7_seen_122 : decode cX7_seen 122 = .ok (.if_icmp .ne 12, 3) := by decide +kernel
theorem dX7_seen_125 : decode cX7_seen 125 = .ok (.aload_n 0, 1) := by decide +kernel
theorem dX7_seen_126 : decode cX7_seen 126 = .ok (.getfield 75, 3) := by decide +kernel
theorem dX7_seen_129 : decode cX7_seen 129 = .ok (.iload_n 1, 1) := by decide +kernel
theorem dX7_seen_130 : decode cX7_seen 130 = .ok (.iaload, 1) := by decide +kernel
theorem dX7_seen_131 : decode cX7_seen 131 = .ok (.goto 54, 3) := by decide +kernel
theorem dX7_seen_134 : decode cX7_seen 134 = .ok (.iload_n 2, 1) := by decide +kernel
theorem dX7_seen_135 : decode cX7_seen 135 = .ok (.bipush 6, 2) := by decide +kernel
theorem dX7_seen_137 : decode cX7_seen 137 = .ok (.if_icmp .ne 12, 3) := by decide +kernel
theorem dX7_seen_140 : decode cX7_seen 140 = .ok (.aload_n 0, 1) := by decide +kernel
theorem dX7_seen_141 : decode cX7_seen 141 = .ok (.getfield 78, 3) := by decide +kernel
theorem dX7_seen_144 : decode cX7_seen 144 = .ok (.iload_n 1, 1) := by decide +kernel
theorem dX7_seen_145 : decode cX7_seen 145 = .ok (.iaload, 1) := by decide +kernel
theorem dX7_seen_146 : decode cX7_seen 146 = .ok (.goto 39, 3) := by decide +kernel
theorem dX7_seen_149 : decode cX7_seen 149 = .ok (.iload_n 2, 1) := by decide +kernel
theorem dX7_seen_150 : decode cX7_seen 150 = .ok (.bipush 7, 2) := by decide +kernel
theorem dX7_seen_152 : decode cX7_seen 152 = .ok (.if_icmp .ne 12, 3) := by decide +kernel
theorem dX7_seen_155 : decode cX7_seen 155 = .ok (.aload_n 0, 1) := by decide +kernel
theorem dX7_seen_156 : decode cX7_seen 156 = .ok (.getfield 81, 3) := by decide +kernel
theorem dX7_seen_159 : decode cX7_seen 159 = .ok (.iload_n 1, 1) := by decide +kernel
theorem dX7_seen_160 : decode cX7_seen 160 = .ok (.iaload, 1) := by decide +kernel
theorem dX7_seen_161 : decode cX7_seen 161 = .ok (.goto 24, 3) := by decide +kernel
theorem dX7_seen_164 : decode cX7_seen 164 = .ok (.iload_n 2, 1) := by decide +kernel
theorem dX7_seen_165 : decode cX7_seen 165 = .ok (.bipush 8, 2) := by decide +kernel
theorem dX7_seen_167 : decode cX7_seen 167 = .ok (.if_icmp .ne 12, 3) := by decide +kernel
theorem dX7_seen_170 : decode cX7_seen 170 = .ok (.aload_n 0, 1) := by decide +kernel
theorem dX7_seen_171 : decode cX7_seen 171 = .ok (.getfield 84, 3) := by decide +kernel
theorem dX7_seen_174 : decode cX7_seen 174 = .ok (.iload_n 1, 1) := by decide +kernel
theorem dX7_seen_175 : decode cX7_seen 175 = .ok (.iaload, 1) := by decide +kernel
theorem dX7_seen_176 : decode cX7_seen 176 = .ok (.goto 9, 3) := by decide +kernel
theorem dX7_seen_179 : decode cX7_seen 179 = .ok (.aload_n 0, 1) := by decide +kernel
theorem dX7_seen_180 : decode cX7_seen 180 = .ok (.getfield 60, 3) := by decide +kernel
theorem dX7_seen_183 : decode cX7_seen 183 = .ok (.iload_n 1, 1) := by decide +kernel
theorem dX7_seen_184 : decode cX7_seen 184 = .ok (.iaload, 1) := by decide +kernel
theorem dX7_seen_185 : decode cX7_seen 185 = .ok (.ireturn, 1) := by decide +kernel
theorem dX7_ceil_0 : decode cX7_ceil 0 = .ok (.iconst 0, 1) := by decide +kernel
theorem dX7_ceil_1 : decode cX7_ceil 1 = .ok (.istore_n 2, 1) := by decide +kernel
theorem dX7_ceil_2 : decode cX7_ceil 2 = .ok (.iconst 0, 1) := by decide +kernel
theorem dX7_ceil_3 : decode cX7_ceil 3 = .ok (.istore_n 3, 1) := by decide +kernel
theorem dX7_ceil_4 : decode cX7_ceil 4 = .ok (.iload_n 3, 1) := by decide +kernel
theorem dX7_ceil_5 : decode cX7_ceil 5 = .ok (.aload_n 0, 1) := by decide +kernel
theorem dX7_ceil_6 : decode cX7_ceil 6 = .ok (.getfield 112, 3) := by decide +kernel
theorem dX7_ceil_9 : decode cX7_ceil 9 = .ok (.if_icmp .ge 94, 3) := by decide +kernel
theorem dX7_ceil_12 : decode cX7_ceil 12 = .ok (.iconst 0, 1) := by decide +kernel
theorem dX7_ceil_13 : decode cX7_ceil 13 = .ok (.istore 4, 2) := by decide +kernel
theorem dX7_ceil_15 : decode cX7_ceil 15 = .ok (.iload 4, 2) := by decide +kernel
theorem dX7_ceil_17 : decode cX7_ceil 17 = .ok (.aload_n 0, 1) := by decide +kernel
theorem dX7_ceil_18 : decode cX7_ceil 18 = .ok (.getfield 33, 3) := by decide +kernel
theorem dX7_ceil_21 : decode cX7_ceil 21 = .ok (.iload_n 3, 1) := by decide +kernel
theorem dX7_ceil_22 : decode cX7_ceil 22 = .ok (.iaload, 1) := by decide +kernel
theorem dX7_ceil_23 : decode cX7_ceil 23 = .ok (.if_icmp .ge 74, 3) := by decide +kernel
theorem dX7_ceil_26 : decode cX7_ceil 26 = .ok (.aload_n 0, 1) := by decide +kernel
theorem dX7_ceil_27 : decode cX7_ceil 27 = .ok (.getfield 36, 3) := by decide +kernel
theorem dX7_ceil_30 : decode cX7_ceil 30 = .ok (.bipush 10, 2) := by decide +kernel
theorem dX7_ceil_32 : decode cX7_ceil 32 = .ok (.iload_n 3, 1) := by decide +kernel
theorem dX7_ceil_33 : decode cX7_ceil 33 = .ok (.imul, 1) := by decide +kernel
theorem dX7_ceil_34 : decode cX7_ceil 34 = .ok (.iload 4, 2) := by decide +kernel
theorem dX7_ceil_36 : decode cX7_ceil 36 = .ok (.iadd, 1) := by decide +kernel
theorem dX7_ceil_37 : decode cX7_ceil 37 = .ok (.iaload, 1) := by decide +kernel
theorem dX7_ceil_38 : decode cX7_ceil 38 = .ok (.iconst 1, 1) := by decide +kernel
theorem dX7_ceil_39 : decode cX7_ceil 39 = .ok (.if_icmp .ne 23, 3) := by decide +kernel
theorem dX7_ceil_42 : decode cX7_ceil 42 = .ok (.aload_n 0, 1) := by decide +kernel
theorem dX7_ceil_43 : decode cX7_ceil 43 = .ok (.getfield 39, 3) := by decide +kernel
theorem dX7_ceil_46 : decode cX7_ceil 46 = .ok (.bipush 10, 2) := by decide +kernel
theorem dX7_ceil_48 : decode cX7_ceil 48 = .ok (.iload_n 3, 1) := by decide +kernel
theorem dX7_ceil_49 : decode cX7_ceil 49 = .ok (.imul, 1) := by decide +kernel
theorem dX7_ceil_50 : decode cX7_ceil 50 = .ok (.iload 4, 2) := by decide +kernel
theorem dX7_ceil_52 : decode cX7_ceil 52 = .ok (.iadd, 1) := by decide +kernel
theorem dX7_ceil_53 : decode cX7_ceil 53 = .ok (.iaload, 1) := by decide +kernel
theorem dX7_ceil_54 : decode cX7_ceil 54 = .ok (.iload_n 1, 1) := by decide +kernel
theorem dX7_ceil_55 : decode cX7_ceil 55 = .ok (.if_icmp .ne 7, 3) := by decide +kernel
theorem dX7_ceil_58 : decode cX7_ceil 58 = .ok (.iconst 1, 1) := by decide +kernel
theorem dX7_ceil_59 : decode cX7_ceil 59 = .ok (.goto 4, 3) := by decide +kernel
theorem dX7_ceil_62 : decode cX7_ceil 62 = .ok (.iconst 0, 1) := by decide +kernel
theorem dX7_ceil_63 : decode cX7_ceil 63 = .ok (.istore 5, 2) := by decide +kernel
theorem dX7_ceil_65 : decode cX7_ceil 65 = .ok (.iload 5, 2) := by decide +kernel
theorem dX7_ceil_67 : decode cX7_ceil 67 = .ok (.ifCond .eq 22, 3) := by decide +kernel
theorem dX7_ceil_70 : decode cX7_ceil 70 = .ok (.aload_n 0, 1) := by decide +kernel
theorem dX7_ceil_71 : decode cX7_ceil 71 = .ok (.getfield 13, 3) := by decide +kernel
theorem dX7_ceil_74 : decode cX7_ceil 74 = .ok (.iload_n 3, 1) := by decide +kernel
theorem dX7_ceil_75 : decode cX7_ceil 75 = .ok (.iaload, 1) := by decide +kernel
theorem dX7_ceil_76 : decode cX7_ceil 76 = .ok (.iload_n 2, 1) := by decide +kernel
theorem dX7_ceil_77 : decode cX7_ceil 77 = .ok (.if_icmp .le 12, 3) := by decide +kernel
theorem dX7_ceil_80 : decode cX7_ceil 80 = .ok (.aload_n 0, 1) := by decide +kernel
theorem dX7_ceil_81 : decode cX7_ceil 81 = .ok (.getfield 13, 3) := by decide +kernel
theorem dX7_ceil_84 : decode cX7_ceil 84 = .ok (.iload_n 3, 1) := by decide +kernel
theorem dX7_ceil_85 : decode cX7_ceil 85 = .ok (.iaload, 1) := by decide +kernel
theorem dX7_ceil_86 : decode cX7_ceil 86 = .ok (.goto 4, 3) := by decide +kernel
theorem dX7_ceil_89 : decode cX7_ceil 89 = .ok (.iload_n 2, 1) := by decide +kernel
theorem dX7_ceil_90 : decode cX7_ceil 90 = .ok (.istore_n 2, 1) := by decide +kernel
theorem dX7_ceil_91 : decode cX7_ceil 91 = .ok (.iinc 4 1, 3) := by decide +kernel
theorem dX7_ceil_94 : decode cX7_ceil 94 = .ok (.goto (-79), 3) := by decide +kernel
theorem dX7_ceil_97 : decode cX7_ceil 97 = .ok (.iinc 3 1, 3) := by decide +kernel
theorem dX7_ceil_100 : decode cX7_ceil 100 = .ok (.goto (-96), 3) := by decide +kernel
theorem dX7_ceil_103 : decode cX7_ceil 103 = .ok (.iload_n 2, 1) := by decide +kernel
theorem dX7_ceil_104 : decode cX7_ceil 104 = .ok (.ireturn, 1) := by decide +kernel
theorem dX7_held_0 : decode cX7_held 0 = .ok (.aload_n 0, 1) := by decide +kernel
theorem dX7_held_1 : decode cX7_held 1 = .ok (.iconst 0, 1) := by decide +kernel
theorem dX7_held_2 : decode cX7_held 2 = .ok (.putfield 109, 3) := by decide +kernel
theorem dX7_held_5 : decode cX7_held 5 = .ok (.iload_n 1, 1) := by decide +kernel
theorem dX7_held_6 : decode cX7_held 6 = .ok (.ifCond .lt 20, 3) := by decide +kernel
theorem dX7_held_9 : decode cX7_held 9 = .ok (.iload_n 1, 1) := by decide +kernel
theorem dX7_held_10 : decode cX7_held 10 = .ok (.aload_n 0, 1) := by decide +kernel
theorem dX7_held_11 : decode cX7_held 11 = .ok (.getfield 126, 3) := by decide +kernel
theorem dX7_held_14 : decode cX7_held 14 = .ok (.if_icmp .ge 12, 3) := by decide +kernel
theorem dX7_held_17 : decode cX7_held 17 = .ok (.iload_n 2, 1) := by decide +kernel
theorem dX7_held_18 : decode cX7_held 18 = .ok (.ifCond .lt 8, 3) := by decide +kernel
theorem dX7_held_21 : decode cX7_held 21 = .ok (.iload_n 2, 1) := by decide +kernel
theorem dX7_held_22 : decode cX7_held 22 = .ok (.iconst 2, 1) := by decide +kernel
theorem dX7_held_23 : decode cX7_held 23 = .ok (.if_icmp .le 5, 3) := by decide +kernel
theorem dX7_held_26 : decode cX7_held 26 = .ok (.iconst (-1), 1) := by decide +kernel
theorem dX7_held_27 : decode cX7_held 27 = .ok (.ireturn, 1) := by decide +kernel
theorem dX7_held_28 : decode cX7_held 28 = .ok (.iconst 0, 1) := by decide +kernel
theorem dX7_held_29 : decode cX7_held 29 = .ok (.istore_n 3, 1) := by decide +kernel
theorem dX7_held_30 : decode cX7_held 30 = .ok (.iconst 0, 1) := by decide +kernel
theorem dX7_held_31 : decode cX7_held 31 = .ok (.istore 4, 2) := by decide +kernel
theorem dX7_held_33 : decode cX7_held 33 = .ok (.iload 4, 2) := by decide +kernel
theorem dX7_held_35 : decode cX7_held 35 = .ok (.aload_n 0, 1) := by decide +kernel
theorem dX7_held_36 : decode cX7_held 36 = .ok (.getfield 112, 3) := by decide +kernel
theorem dX7_held_39 : decode cX7_held 39 = .ok (.if_icmp .ge 39, 3) := by decide +kernel
theorem dX7_held_42 : decode cX7_held 42 = .ok (.iload_n 3, 1) := by decide +kernel
theorem dX7_held_43 : decode cX7_held 43 = .ok (.aload_n 0, 1) := by decide +kernel
theorem dX7_held_44 : decode cX7_held 44 = .ok (.getfield 42, 3) := by decide +kernel
theorem dX7_held_47 : decode cX7_held 47 = .ok (.iload 4, 2) := by decide +kernel
theorem dX7_held_49 : decode cX7_held 49 = .ok (.iaload, 1) := by decide +kernel
theorem dX7_held_50 : decode cX7_held 50 = .ok (.iconst 2, 1) := by decide +kernel
theorem dX7_held_51 : decode cX7_held 51 = .ok (.if_icmp .ne 18, 3) := by decide +kernel
theorem dX7_held_54 : decode cX7_held 54 = .ok (.aload_n 0, 1) := by decide +kernel
theorem dX7_held_55 : decode cX7_held 55 = .ok (.getfield 60, 3) := by decide +kernel
theorem dX7_held_58 : decode cX7_held 58 = .ok (.iload 4, 2) := by decide +kernel
theorem dX7_held_60 : decode cX7_held 60 = .ok (.iaload, 1) := by decide +kernel
theorem dX7_held_61 : decode cX7_held 61 = .ok (.iload_n 1, 1) := by decide +kernel
theorem dX7_held_62 : decode cX7_held 62 = .ok (.if_icmp .ne 7, 3) := by decide +kernel
theorem dX7_held_65 : decode cX7_held 65 = .ok (.iconst 1, 1) := by decide +kernel
theorem dX7_held_66 : decode cX7_held 66 = .ok (.goto 4, 3) := by decide +kernel
theorem dX7_held_69 : decode cX7_held 69 = .ok (.iconst 0, 1) := by decide +kernel
theorem dX7_held_70 : decode cX7_held 70 = .ok (.iadd, 1) := by decide +kernel
theorem dX7_held_71 : decode cX7_held 71 = .ok (.istore_n 3, 1) := by decide +kernel
theorem dX7_held_72 : decode cX7_held 72 = .ok (.iinc 4 1, 3) := by decide +kernel
theorem dX7_held_75 : decode cX7_held 75 = .ok (.goto (-42), 3) := by decide +kernel
theorem dX7_held_78 : decode cX7_held 78 = .ok (.iload_n 2, 1) := by decide +kernel
theorem dX7_held_79 : decode cX7_held 79 = .ok (.ifCond .ne 12, 3) := by decide +kernel
theorem dX7_held_82 : decode cX7_held 82 = .ok (.aload_n 0, 1) := by decide +kernel
theorem dX7_held_83 : decode cX7_held 83 = .ok (.getfield 93, 3) := by decide +kernel
theorem dX7_held_86 : decode cX7_held 86 = .ok (.iload_n 1, 1) := by decide +kernel
theorem dX7_held_87 : decode cX7_held 87 = .ok (.iaload, 1) := by decide +kernel
theorem dX7_held_88 : decode cX7_held 88 = .ok (.goto 17, 3) := by decide +kernel
theorem dX7_held_91 : decode cX7_held 91 = .ok (.iload_n 2, 1) := by decide +kernel
theorem dX7_held_92 : decode cX7_held 92 = .ok (.iconst 1, 1) := by decide +kernel
theorem dX7_held_93 : decode cX7_held 93 = .ok (.if_icmp .ne 7, 3) := by decide +kernel
theorem dX7_held_96 : decode cX7_held 96 = .ok (.iload_n 3, 1) := by decide +kernel
theorem dX7_held_97 : decode cX7_held 97 = .ok (.goto 8, 3) := by decide +kernel
theorem dX7_held_100 : decode cX7_held 100 = .ok (.aload_n 0, 1) := by decide +kernel
theorem dX7_held_101 : decode cX7_held 101 = .ok (.iload_n 1, 1) := by decide +kernel
theorem dX7_held_102 : decode cX7_held 102 = .ok (.invokevirtual 187, 3) := by decide +kernel
theorem dX7_held_105 : decode cX7_held 105 = .ok (.ireturn, 1) := by decide +kernel
theorem dX7_event_0 : decode cX7_event 0 = .ok (.aload_n 0, 1) := by decide +kernel
theorem dX7_event_1 : decode cX7_event 1 = .ok (.iconst 0, 1) := by decide +kernel
theorem dX7_event_2 : decode cX7_event 2 = .ok (.putfield 109, 3) := by decide +kernel
theorem dX7_event_5 : decode cX7_event 5 = .ok (.iload_n 1, 1) := by decide +kernel
theorem dX7_event_6 : decode cX7_event 6 = .ok (.ifCond .lt 26, 3) := by decide +kernel
theorem dX7_event_9 : decode cX7_event 9 = .ok (.iload_n 1, 1) := by decide +kernel
theorem dX7_event_10 : decode cX7_event 10 = .ok (.bipush 40, 2) := by decide +kernel
theorem dX7_event_12 : decode cX7_event 12 = .ok (.if_icmp .ge 20, 3) := by decide +kernel
theorem dX7_event_15 : decode cX7_event 15 = .ok (.iload_n 1, 1) := by decide +kernel
theorem dX7_event_16 : decode cX7_event 16 = .ok (.aload_n 0, 1) := by decide +kernel
theorem dX7_event_17 : decode cX7_event 17 = .ok (.getfield 136, 3) := by decide +kernel
theorem dX7_event_20 : decode cX7_event 20 = .ok (.if_icmp .ge 12, 3) := by decide +kernel
theorem dX7_event_23 : decode cX7_event 23 = .ok (.iload_n 2, 1) := by decide +kernel
theorem dX7_event_24 : decode cX7_event 24 = .ok (.ifCond .lt 8, 3) := by decide +kernel
theorem dX7_event_27 : decode cX7_event 27 = .ok (.iload_n 2, 1) := by decide +kernel
theorem dX7_event_28 : decode cX7_event 28 = .ok (.iconst 2, 1) := by decide +kernel
theorem dX7_event_29 : decode cX7_event 29 = .ok (.if_icmp .le 5, 3) := by decide +kernel
theorem dX7_event_32 : decode cX7_event 32 = .ok (.iconst (-1), 1) := by decide +kernel
theorem dX7_event_33 : decode cX7_event 33 = .ok (.ireturn, 1) := by decide +kernel
theorem dX7_event_34 : decode cX7_event 34 = .ok (.aload_n 0, 1) := by decide +kernel
theorem dX7_event_35 : decode cX7_event 35 = .ok (.getfield 136, 3) := by decide +kernel
theorem dX7_event_38 : decode cX7_event 38 = .ok (.iconst 1, 1) := by decide +kernel
theorem dX7_event_39 : decode cX7_event 39 = .ok (.isub, 1) := by decide +kernel
theorem dX7_event_40 : decode cX7_event 40 = .ok (.iload_n 1, 1) := by decide +kernel
theorem dX7_event_41 : decode cX7_event 41 = .ok (.isub, 1) := by decide +kernel
theorem dX7_event_42 : decode cX7_event 42 = .ok (.bipush 40, 2) := by decide +kernel
theorem dX7_event_44 : decode cX7_event 44 = .ok (.irem, 1) := by decide +kernel
theorem dX7_event_45 : decode cX7_event 45 = .ok (.istore_n 3, 1) := by decide +kernel
theorem dX7_event_46 : decode cX7_event 46 = .ok (.iload_n 2, 1) := by decide +kernel
theorem dX7_event_47 : decode cX7_event 47 = .ok (.ifCond .ne 12, 3) := by decide +kernel
theorem dX7_event_50 : decode cX7_event 50 = .ok (.aload_n 0, 1) := by decide +kernel
theorem dX7_event_51 : decode cX7_event 51 = .ok (.getfield 96, 3) := by decide +kernel
theorem dX7_event_54 : decode cX7_event 54 = .ok (.iload_n 3, 1) := by decide +kernel
theorem dX7_event_55 : decode cX7_event 55 = .ok (.iaload, 1) := by decide +kernel
theorem dX7_event_56 : decode cX7_event 56 = .ok (.goto 23, 3) := by decide +kernel
theorem dX7_event_59 : decode cX7_event 59 = .ok (.iload_n 2, 1) := by decide +kernel
theorem dX7_event_60 : decode cX7_event 60 = .ok (.iconst 1, 1) := by decide +kernel
theorem dX7_event_61 : decode cX7_event 61 = .ok (.if_icmp .ne 12, 3) := by decide +kernel
theorem dX7_event_64 : decode cX7_event 64 = .ok (.aload_n 0, 1) := by decide +kernel
theorem dX7_event_65 : decode cX7_event 65 = .ok (.getfield 99, 3) := by decide +kernel
theorem dX7_event_68 : decode cX7_event 68 = .ok (.iload_n 3, 1) := by decide +kernel
theorem dX7_event_69 : decode cX7_event 69 = .ok (.iaload, 1) := by decide +kernel
theorem dX7_event_70 : decode cX7_event 70 = .ok (.goto 9, 3) := by decide +kernel
theorem dX7_event_73 : decode cX7_event 73 = .ok (.aload_n 0, 1) := by decide +kernel
theorem dX7_event_74 : decode cX7_event 74 = .ok (.getfield 102, 3) := by decide +kernel
theorem dX7_event_77 : decode cX7_event 77 = .ok (.iload_n 3, 1) := by decide +kernel
theorem dX7_event_78 : decode cX7_event 78 = .ok (.iaload, 1) := by decide +kernel
theorem dX7_event_79 : decode cX7_event 79 = .ok (.ireturn, 1) := by decide +kernel
theorem dX7_cost_0 : decode cX7_cost 0 = .ok (.iconst 0, 1) := by decide +kernel
theorem dX7_cost_1 : decode cX7_cost 1 = .ok (.istore_n 2, 1) := by decide +kernel
theorem dX7_cost_2 : decode cX7_cost 2 = .ok (.iconst 0, 1) := by decide +kernel
theorem dX7_cost_3 : decode cX7_cost 3 = .ok (.istore_n 3, 1) := by decide +kernel
theorem dX7_cost_4 : decode cX7_cost 4 = .ok (.iload_n 3, 1) := by decide +kernel
theorem dX7_cost_5 : decode cX7_cost 5 = .ok (.aload_n 0, 1) := by decide +kernel
theorem dX7_cost_6 : decode cX7_cost 6 = .ok (.getfield 33, 3) := by decide +kernel
theorem dX7_cost_9 : decode cX7_cost 9 = .ok (.iload_n 1, 1) := by decide +kernel
theorem dX7_cost_10 : decode cX7_cost 10 = .ok (.iaload, 1) := by decide +kernel
theorem dX7_cost_11 : decode cX7_cost 11 = .ok (.if_icmp .ge 41, 3) := by decide +kernel
theorem dX7_cost_14 : decode cX7_cost 14 = .ok (.iload_n 2, 1) := by decide +kernel
theorem dX7_cost_15 : decode cX7_cost 15 = .ok (.aload_n 0, 1) := by decide +kernel
theorem dX7_cost_16 : decode cX7_cost 16 = .ok (.getfield 36, 3) := by decide +kernel
theorem dX7_cost_19 : decode cX7_cost 19 = .ok (.bipush 10, 2) := by decide +kernel
theorem dX7_cost_21 : decode cX7_cost 21 = .ok (.iload_n 1, 1) := by decide +kernel
theorem dX7_cost_22 : decode cX7_cost 22 = .ok (.imul, 1) := by decide +kernel
theorem dX7_cost_23 : decode cX7_cost 23 = .ok (.iload_n 3, 1) := by decide +kernel
theorem dX7_cost_24 : decode cX7_cost 24 = .ok (.iadd, 1) := by decide +kernel
theorem dX7_cost_25 : decode cX7_cost 25 = .ok (.iaload, 1) := by decide +kernel
theorem dX7_cost_26 : decode cX7_cost 26 = .ok (.ifCond .ne 17, 3) := by decide +kernel
theorem dX7_cost_29 : decode cX7_cost 29 = .ok (.aload_n 0, 1) := by decide +kernel
theorem dX7_cost_30 : decode cX7_cost 30 = .ok (.getfield 39, 3) := by decide +kernel
theorem dX7_cost_33 : decode cX7_cost 33 = .ok (.bipush 10, 2) := by decide +kernel
theorem dX7_cost_35 : decode cX7_cost 35 = .ok (.iload_n 1, 1) := by decide +kernel
theorem dX7_cost_36 : decode cX7_cost 36 = .ok (.imul, 1) := by decide +kernel
theorem dX7_cost_37 : decode cX7_cost 37 = .ok (.iload_n 3, 1) := by decide +kernel
theorem dX7_cost_38 : decode cX7_cost 38 = .ok (.iadd, 1) := by decide +kernel
theorem dX7_cost_39 : decode cX7_cost 39 = .ok (.iaload, 1) := by decide +kernel
theorem dX7_cost_40 : decode cX7_cost 40 = .ok (.goto 4, 3) := by decide +kernel
theorem dX7_cost_43 : decode cX7_cost 43 = .ok (.iconst 0, 1) := by decide +kernel
theorem dX7_cost_44 : decode cX7_cost 44 = .ok (.iadd, 1) := by decide +kernel
theorem dX7_cost_45 : decode cX7_cost 45 = .ok (.istore_n 2, 1) := by decide +kernel
theorem dX7_cost_46 : decode cX7_cost 46 = .ok (.iinc 3 1, 3) := by decide +kernel
theorem dX7_cost_49 : decode cX7_cost 49 = .ok (.goto (-45), 3) := by decide +kernel
theorem dX7_cost_52 : decode cX7_cost 52 = .ok (.iload_n 2, 1) := by decide +kernel
theorem dX7_cost_53 : decode cX7_cost 53 = .ok (.ireturn, 1) := by decide +kernel
theorem dX7_section_0 : decode cX7_section 0 = .ok (.aload_n 0, 1) := by decide +kernel
theorem dX7_section_1 : decode cX7_section 1 = .ok (.getfield 39, 3) := by decide +kernel
theorem dX7_section_4 : decode cX7_section 4 = .ok (.bipush 10, 2) := by decide +kernel
theorem dX7_section_6 : decode cX7_section 6 = .ok (.iload_n 1, 1) := by decide +kernel
theorem dX7_section_7 : decode cX7_section 7 = .ok (.imul, 1) := by decide +kernel
theorem dX7_section_8 : decode cX7_section 8 = .ok (.iload_n 2, 1) := by decide +kernel
theorem dX7_section_9 : decode cX7_section 9 = .ok (.iadd, 1) := by decide +kernel
theorem dX7_section_10 : decode cX7_section 10 = .ok (.iaload, 1) := by decide +kernel
theorem dX7_section_11 : decode cX7_section 11 = .ok (.istore_n 3, 1) := by decide +kernel
theorem dX7_section_12 : decode cX7_section 12 = .ok (.iconst 0, 1) := by decide +kernel
theorem dX7_section_13 : decode cX7_section 13 = .ok (.istore 4, 2) := by decide +kernel
theorem dX7_section_15 : decode cX7_section 15 = .ok (.iload_n 2, 1) := by decide +kernel
theorem dX7_section_16 : decode cX7_section 16 = .ok (.iconst 1, 1) := by decide +kernel
theorem dX7_section_17 : decode cX7_section 17 = .ok (.iadd, 1) := by decide +kernel
theorem dX7_section_18 : decode cX7_section 18 = .ok (.istore 5, 2) := by decide +kernel
theorem dX7_section_20 : decode cX7_section 20 = .ok (.iload 5, 2) := by decide +kernel
theorem dX7_section_22 : decode cX7_section 22 = .ok (.aload_n 0, 1) := by decide +kernel
theorem dX7_section_23 : decode cX7_section 23 = .ok (.getfield 33, 3) := by decide +kernel
theorem dX7_section_26 : decode cX7_section 26 = .ok (.iload_n 1, 1) := by decide +kernel
theorem dX7_section_27 : decode cX7_section 27 = .ok (.iaload, 1) := by decide +kernel
theorem dX7_section_28 : decode cX7_section 28 = .ok (.if_icmp .ge 69, 3) := by decide +kernel
theorem dX7_section_31 : decode cX7_section 31 = .ok (.bipush 10, 2) := by decide +kernel
theorem dX7_section_33 : decode cX7_section 33 = .ok (.iload_n 1, 1) := by decide +kernel
theorem dX7_section_34 : decode cX7_section 34 = .ok (.imul, 1) := by decide +kernel
theorem dX7_section_35 : decode cX7_section 35 = .ok (.iload 5, 2) := by decide +kernel
theorem dX7_section_37 : decode cX7_section 37 = .ok (.iadd, 1) := by decide +kernel
theorem dX7_section_38 : decode cX7_section 38 = .ok (.istore 6, 2) := by decide +kernel
theorem dX7_section_40 : decode cX7_section 40 = .ok (.aload_n 0, 1) := by decide +kernel
theorem dX7_section_41 : decode cX7_section 41 = .ok (.getfield 36, 3) := by decide +kernel
theorem dX7_section_44 : decode cX7_section 44 = .ok (.iload 6, 2) := by decide +kernel
theorem dX7_section_46 : decode cX7_section 46 = .ok (.iaload, 1) := by decide +kernel
theorem dX7_section_47 : decode cX7_section 47 = .ok (.iconst 2, 1) := by decide +kernel
theorem dX7_section_48 : decode cX7_section 48 = .ok (.if_icmp .ne 17, 3) := by decide +kernel
theorem dX7_section_51 : decode cX7_section 51 = .ok (.aload_n 0, 1) := by decide +kernel
theorem dX7_section_52 : decode cX7_section 52 = .ok (.getfield 39, 3) := by decide +kernel
theorem dX7_section_55 : decode cX7_section 55 = .ok (.iload 6, 2) := by decide +kernel
theorem dX7_section_57 : decode cX7_section 57 = .ok (.iaload, 1) := by decide +kernel
theorem dX7_section_58 : decode cX7_section 58 = .ok (.iload_n 3, 1) := by decide +kernel
theorem dX7_section_59 : decode cX7_section 59 = .ok (.if_icmp .ne 6, 3) := by decide +kernel
theorem dX7_section_62 : decode cX7_section 62 = .ok (.iload 4, 2) := by decide +kernel
theorem dX7_section_64 : decode cX7_section 64 = .ok (.ireturn, 1) := by decide +kernel
theorem dX7_section_65 : decode cX7_section 65 = .ok (.iload 4, 2) := by decide +kernel
theorem dX7_section_67 : decode cX7_section 67 = .ok (.aload_n 0, 1) := by decide +kernel
theorem dX7_section_68 : decode cX7_section 68 = .ok (.getfield 36, 3) := by decide +kernel
theorem dX7_section_71 : decode cX7_section 71 = .ok (.iload 6, 2) := by decide +kernel
theorem dX7_section_73 : decode cX7_section 73 = .ok (.iaload, 1) := by decide +kernel
theorem dX7_section_74 : decode cX7_section 74 = .ok (.ifCond .ne 13, 3) := by decide +kernel
theorem dX7_section_77 : decode cX7_section 77 = .ok (.aload_n 0, 1) := by decide +kernel
theorem dX7_section_78 : decode cX7_section 78 = .ok (.getfield 39, 3) := by decide +kernel
theorem dX7_section_81 : decode cX7_section 81 = .ok (.iload 6, 2) := by decide +kernel
theorem dX7_section_83 : decode cX7_section 83 = .ok (.iaload, 1) := by decide +kernel
theorem dX7_section_84 : decode cX7_section 84 = .ok (.goto 4, 3) := by decide +kernel
theorem dX7_section_87 : decode cX7_section 87 = .ok (.iconst 0, 1) := by decide +kernel
theorem dX7_section_88 : decode cX7_section 88 = .ok (.iadd, 1) := by decide +kernel
theorem dX7_section_89 : decode cX7_section 89 = .ok (.istore 4, 2) := by decide +kernel
theorem dX7_section_91 : decode cX7_section 91 = .ok (.iinc 5 1, 3) := by decide +kernel
theorem dX7_section_94 : decode cX7_section 94 = .ok (.goto (-74), 3) := by decide +kernel
theorem dX7_section_97 : decode cX7_section 97 = .ok (.iload 4, 2) := by decide +kernel
theorem dX7_section_99 : decode cX7_section 99 = .ok (.ireturn, 1) := by decide +kernel
theorem dX7_blocking_0 : decode cX7_blocking 0 = .ok (.iconst 0, 1) := by decide +kernel
theorem dX7_blocking_1 : decode cX7_blocking 1 = .ok (.istore_n 2, 1) := by decide +kernel
theorem dX7_blocking_2 : decode cX7_blocking 2 = .ok (.iconst 0, 1) := by decide +kernel
theorem dX7_blocking_3 : decode cX7_blocking 3 = .ok (.istore_n 3, 1) := by decide +kernel
theorem dX7_blocking_4 : decode cX7_blocking 4 = .ok (.iload_n 3, 1) := by decide +kernel
theorem dX7_blocking_5 : decode cX7_blocking 5 = .ok (.aload_n 0, 1) := by decide +kernel
theorem dX7_blocking_6 : decode cX7_blocking 6 = .ok (.getfield 112, 3) := by decide +kernel
theorem dX7_blocking_9 : decode cX7_blocking 9 = .ok (.if_icmp .ge 107, 3) := by decide +kernel
theorem dX7_blocking_12 : decode cX7_blocking 12 = .ok (.iconst 0, 1) := by decide +kernel
theorem dX7_blocking_13 : decode cX7_blocking 13 = .ok (.istore 4, 2) := by decide +kernel
theorem dX7_blocking_15 : decode cX7_blocking 15 = .ok (.iload 4, 2) := by decide +kernel
theorem dX7_blocking_17 : decode cX7_blocking 17 = .ok (.aload_n 0, 1) := by decide +kernel
theorem dX7_blocking_18 : decode cX7_blocking 18 = .ok (.getfield 33, 3) := by decide +kernel
theorem dX7_blocking_21 : decode cX7_blocking 21 = .ok (.iload_n 3, 1) := by decide +kernel
theorem dX7_blocking_22 : decode cX7_blocking 22 = .ok (.iaload, 1) := by decide +kernel
theorem dX7_blocking_23 : decode cX7_blocking 23 = .ok (.if_icmp .ge 87, 3) := by decide +kernel
theorem dX7_blocking_26 : decode cX7_blocking 26 = .ok (.aload_n 0, 1) := by decide +kernel
theorem dX7_blocking_27 : decode cX7_blocking 27 = .ok (.getfield 13, 3) := by decide +kernel
theorem dX7_blocking_30 : decode cX7_blocking 30 = .ok (.iload_n 3, 1) := by decide +kernel
theorem dX7_blocking_31 : decode cX7_blocking 31 = .ok (.iaload, 1) := by decide +kernel
theorem dX7_blocking_32 : decode cX7_blocking 32 = .ok (.aload_n 0, 1) := by decide +kernel
theorem dX7_blocking_33 : decode cX7_blocking 33 = .ok (.getfield 13, 3) := by decide +kernel
theorem dX7_blocking_36 : decode cX7_blocking 36 = .ok (.iload_n 1, 1) := by decide +kernel
theorem dX7_blocking_37 : decode cX7_blocking 37 = .ok (.iaload, 1) := by decide +kernel
theorem dX7_blocking_38 : decode cX7_blocking 38 = .ok (.if_icmp .ge 72, 3) := by decide +kernel
theorem dX7_blocking_41 : decode cX7_blocking 41 = .ok (.aload_n 0, 1) := by decide +kernel
theorem dX7_blocking_42 : decode cX7_blocking 42 = .ok (.getfield 36, 3) := by decide +kernel
theorem dX7_blocking_45 : decode cX7_blocking 45 = .ok (.bipush 10, 2) := by decide +kernel
theorem dX7_blocking_47 : decode cX7_blocking 47 = .ok (.iload_n 3, 1) := by decide +kernel
theorem dX7_blocking_48 : decode cX7_blocking 48 = .ok (.imul, 1) := by decide +kernel
theorem dX7_blocking_49 : decode cX7_blocking 49 = .ok (.iload 4, 2) := by decide +kernel
theorem dX7_blocking_51 : decode cX7_blocking 51 = .ok (.iadd, 1) := by decide +kernel
theorem dX7_blocking_52 : decode cX7_blocking 52 = .ok (.iaload, 1) := by decide +kernel
theorem dX7_blocking_53 : decode cX7_blocking 53 = .ok (.iconst 1, 1) := by decide +kernel
theorem dX7_blocking_54 : decode cX7_blocking 54 = .ok (.if_icmp .ne 50, 3) := by decide +kernel
theorem dX7_blocking_57 : decode cX7_blocking 57 = .ok (.aload_n 0, 1) := by decide +kernel
theorem dX7_blocking_58 : decode cX7_blocking 58 = .ok (.aload_n 0, 1) := by decide +kernel
theorem dX7_blocking_59 : decode cX7_blocking 59 = .ok (.getfield 39, 3) := by decide +kernel
theorem dX7_blocking_62 : decode cX7_blocking 62 = .ok (.bipush 10, 2) := by decide +kernel
theorem dX7_blocking_64 : decode cX7_blocking 64 = .ok (.iload_n 3, 1) := by decide +kernel
theorem dX7_blocking_65 : decode cX7_blocking 65 = .ok (.imul, 1) := by decide +kernel
theorem dX7_blocking_66 : decode cX7_blocking 66 = .ok (.iload 4, 2) := by decide +kernel
theorem dX7_blocking_68 : decode cX7_blocking 68 = .ok (.iadd, 1) := by decide +kernel
theorem dX7_blocking_69 : decode cX7_blocking 69 = .ok (.iaload, 1) := by decide +kernel
theorem dX7_blocking_70 : decode cX7_blocking 70 = .ok (.invokevirtual 187, 3) := by decide +kernel
theorem dX7_blocking_73 : decode cX7_blocking 73 = .ok (.aload_n 0, 1) := by decide +kernel
theorem dX7_blocking_74 : decode cX7_blocking 74 = .ok (.getfield 13, 3) := by decide +kernel
theorem dX7_blocking_77 : decode cX7_blocking 77 = .ok (.iload_n 1, 1) := by decide +kernel
theorem dX7_blocking_78 : decode cX7_blocking 78 = .ok (.iaload, 1) := by decide +kernel
theorem dX7_blocking_79 : decode cX7_blocking 79 = .ok (.if_icmp .lt 25, 3) := by decide +kernel
theorem dX7_blocking_82 : decode cX7_blocking 82 = .ok (.aload_n 0, 1) := by decide +kernel
theorem dX7_blocking_83 : decode cX7_blocking 83 = .ok (.iload_n 3, 1) := by decide +kernel
theorem dX7_blocking_84 : decode cX7_blocking 84 = .ok (.iload 4, 2) := by decide +kernel
theorem dX7_blocking_86 : decode cX7_blocking 86 = .ok (.invokevirtual 191, 3) := by decide +kernel
theorem dX7_blocking_89 : decode cX7_blocking 89 = .ok (.istore 5, 2) := by decide +kernel
theorem dX7_blocking_91 : decode cX7_blocking 91 = .ok (.iload 5, 2) := by decide +kernel
theorem dX7_blocking_93 : decode cX7_blocking 93 = .ok (.iload_n 2, 1) := by decide +kernel
theorem dX7_blocking_94 : decode cX7_blocking 94 = .ok (.if_icmp .le 8, 3) := by decide +kernel
theorem dX7_blocking_97 : decode cX7_blocking 97 = .ok (.iload 5, 2) := by decide +kernel
theorem dX7_blocking_99 : decode cX7_blocking 99 = .ok (.goto 4, 3) := by decide +kernel
theorem dX7_blocking_102 : decode cX7_blocking 102 = .ok (.iload_n 2, 1) := by decide +kernel
theorem dX7_blocking_103 : decode cX7_blocking 103 = .ok (.istore_n 2, 1) := by decide +kernel
theorem dX7_blocking_104 : decode cX7_blocking 104 = .ok (.iinc 4 1, 3) := by decide +kernel
theorem dX7_blocking_107 : decode cX7_blocking 107 = .ok (.goto (-92), 3) := by decide +kernel
theorem dX7_blocking_110 : decode cX7_blocking 110 = .ok (.iinc 3 1, 3) := by decide +kernel
theorem dX7_blocking_113 : decode cX7_blocking 113 = .ok (.goto (-109), 3) := by decide +kernel
theorem dX7_blocking_116 : decode cX7_blocking 116 = .ok (.iload_n 2, 1) := by decide +kernel
theorem dX7_blocking_117 : decode cX7_blocking 117 = .ok (.ireturn, 1) := by decide +kernel
theorem dX7_response_0 : decode cX7_response 0 = .ok (.aload_n 0, 1) := by decide +kernel
theorem dX7_response_1 : decode cX7_response 1 = .ok (.aload_n 0, 1) := by decide +kernel
theorem dX7_response_2 : decode cX7_response 2 = .ok (.iload_n 1, 1) := by decide +kernel
theorem dX7_response_3 : decode cX7_response 3 = .ok (.invokevirtual 122, 3) := by decide +kernel
theorem dX7_response_6 : decode cX7_response 6 = .ok (.ifCond .eq 7, 3) := by decide +kernel
theorem dX7_response_9 : decode cX7_response 9 = .ok (.iconst 0, 1) := by decide +kernel
theorem dX7_response_10 : decode cX7_response 10 = .ok (.goto 4, 3) := by decide +kernel
theorem dX7_response_13 : decode cX7_response 13 = .ok (.iconst 1, 1) := by decide +kernel
theorem dX7_response_14 : decode cX7_response 14 = .ok (.putfield 109, 3) := by decide +kernel
theorem dX7_response_17 : decode cX7_response 17 = .ok (.aload_n 0, 1) := by decide +kernel
theorem dX7_response_18 : decode cX7_response 18 = .ok (.getfield 109, 3) := by decide +kernel
theorem dX7_response_21 : decode cX7_response 21 = .ok (.ifCond .le 5, 3) := by decide +kernel
theorem dX7_response_24 : decode cX7_response 24 = .ok (.iconst 0, 1) := by decide +kernel
theorem dX7_response_25 : decode cX7_response 25 = .ok (.ireturn, 1) := by decide +kernel
theorem dX7_response_26 : decode cX7_response 26 = .ok (.aload_n 0, 1) := by decide +kernel
theorem dX7_response_27 : decode cX7_response 27 = .ok (.iload_n 1, 1) := by decide +kernel
theorem dX7_response_28 : decode cX7_response 28 = .ok (.invokevirtual 195, 3) := by decide +kernel
theorem dX7_response_31 : decode cX7_response 31 = .ok (.aload_n 0, 1) := by decide +kernel
theorem dX7_response_32 : decode cX7_response 32 = .ok (.iload_n 1, 1) := by decide +kernel
theorem dX7_response_33 : decode cX7_response 33 = .ok (.invokevirtual 198, 3) := by decide +kernel
theorem dX7_response_36 : decode cX7_response 36 = .ok (.iadd, 1) := by decide +kernel
theorem dX7_response_37 : decode cX7_response 37 = .ok (.istore_n 2, 1) := by decide +kernel
theorem dX7_response_38 : decode cX7_response 38 = .ok (.iload_n 2, 1) := by decide +kernel
theorem dX7_response_39 : decode cX7_response 39 = .ok (.istore_n 3, 1) := by decide +kernel
theorem dX7_response_40 : decode cX7_response 40 = .ok (.iconst (-1), 1) := by decide +kernel
theorem dX7_response_41 : decode cX7_response 41 = .ok (.istore 4, 2) := by decide +kernel
theorem dX7_response_43 : decode cX7_response 43 = .ok (.iload_n 3, 1) := by decide +kernel
theorem dX7_response_44 : decode cX7_response 44 = .ok (.iload 4, 2) := by decide +kernel
theorem dX7_response_46 : decode cX7_response 46 = .ok (.if_icmp .eq 123, 3) := by decide +kernel
theorem dX7_response_49 : decode cX7_response 49 = .ok (.iload_n 3, 1) := by decide +kernel
theorem dX7_response_50 : decode cX7_response 50 = .ok (.sipush 1000, 3) := by decide +kernel
theorem dX7_response_53 : decode cX7_response 53 = .ok (.if_icmp .gt 116, 3) := by decide +kernel
theorem dX7_response_56 : decode cX7_response 56 = .ok (.iload_n 3, 1) := by decide +kernel
theorem dX7_response_57 : decode cX7_response 57 = .ok (.istore 4, 2) := by decide +kernel
theorem dX7_response_59 : decode cX7_response 59 = .ok (.iload_n 2, 1) := by decide +kernel
theorem dX7_response_60 : decode cX7_response 60 = .ok (.istore_n 3, 1) := by decide +kernel
theorem dX7_response_61 : decode cX7_response 61 = .ok (.iconst 0, 1) := by decide +kernel
theorem dX7_response_62 : decode cX7_response 62 = .ok (.istore 5, 2) := by decide +kernel
theorem dX7_response_64 : decode cX7_response 64 = .ok (.iload 5, 2) := by decide +kernel
theorem dX7_response_66 : decode cX7_response 66 = .ok (.aload_n 0, 1) := by decide +kernel
theorem dX7_response_67 : decode cX7_response 67 = .ok (.getfield 112, 3) := by decide +kernel
theorem dX7_response_70 : decode cX7_response 70 = .ok (.if_icmp .ge 96, 3) := by decide +kernel
theorem dX7_response_73 : decode cX7_response 73 = .ok (.iload 5, 2) := by decide +kernel
theorem dX7_response_75 : decode cX7_response 75 = .ok (.iload_n 1, 1) := by decide +kernel
theorem dX7_response_76 : decode cX7_response 76 = .ok (.if_icmp .eq 33, 3) := by decide +kernel
theorem dX7_response_79 : decode cX7_response 79 = .ok (.aload_n 0, 1) := by decide +kernel
theorem dX7_response_80 : decode cX7_response 80 = .ok (.getfield 17, 3) := by decide +kernel
theorem dX7_response_83 : decode cX7_response 83 = .ok (.iload 5, 2) := by decide +kernel
theorem dX7_response_85 : decode cX7_response 85 = .ok (.iaload, 1) := by decide +kernel
theorem dX7_response_86 : decode cX7_response 86 = .ok (.ifCond .le 23, 3) := by decide +kernel
theorem dX7_response_89 : decode cX7_response 89 = .ok (.aload_n 0, 1) := by decide +kernel
theorem dX7_response_90 : decode cX7_response 90 = .ok (.getfield 13, 3) := by decide +kernel
theorem dX7_response_93 : decode cX7_response 93 = .ok (.iload 5, 2) := by decide +kernel
theorem dX7_response_95 : decode cX7_response 95 = .ok (.iaload, 1) := by decide +kernel
theorem dX7_response_96 : decode cX7_response 96 = .ok (.aload_n 0, 1) := by decide +kernel
theorem dX7_response_97 : decode cX7_response 97 = .ok (.getfield 13, 3) := by decide +kernel
theorem dX7_response_100 : decode cX7_response 100 = .ok (.iload_n 1, 1) := by decide +kernel
theorem dX7_response_101 : decode cX7_response 101 = .ok (.iaload, 1) := by decide +kernel
theorem dX7_response_102 : decode cX7_response 102 = .ok (.if_icmp .lt 7, 3) := by decide +kernel
theorem dX7_response_105 : decode cX7_response 105 = .ok (.iconst 1, 1) := by decide +kernel
theorem dX7_response_106 : decode cX7_response 106 = .ok (.goto 4, 3) := by decide +kernel
theorem dX7_response_109 : decode cX7_response 109 = .ok (.iconst 0, 1) := by decide +kernel
theorem dX7_response_110 : decode cX7_response 110 = .ok (.istore 6, 2) := by decide +kernel
theorem dX7_response_112 : decode cX7_response 112 = .ok (.iload_n 3, 1) := by decide +kernel
theorem dX7_response_113 : decode cX7_response 113 = .ok (.iload 6, 2) := by decide +kernel
theorem dX7_response_115 : decode cX7_response 115 = .ok (.ifCond .eq 42, 3) := by decide +kernel
theorem dX7_response_118 : decode cX7_response 118 = .ok (.iload 4, 2) := by decide +kernel
theorem dX7_response_120 : decode cX7_response 120 = .ok (.aload_n 0, 1) := by decide +kernel
theorem dX7_response_121 : decode cX7_response 121 = .ok (.getfield 17, 3) := by decide +kernel
theorem dX7_response_124 : decode cX7_response 124 = .ok (.iload 5, 2) := by decide +kernel
theorem dX7_response_126 : decode cX7_response 126 = .ok (.iaload, 1) := by decide +kernel
theorem dX7_response_127 : decode cX7_response 127 = .ok (.iadd, 1) := by decide +kernel
theorem dX7_response_128 : decode cX7_response 128 = .ok (.iconst 1, 1) := by decide +kernel
theorem dX7_response_129 : decode cX7_response 129 = .ok (.isub, 1) := by decide +kernel
theorem dX7_response_130 : decode cX7_response 130 = .ok (.iload 6, 2) := by decide +kernel
theorem dX7_response_132 : decode cX7_response 132 = .ok (.ifCond .eq 13, 3) := by decide +kernel
theorem dX7_response_135 : decode cX7_response 135 = .ok (.aload_n 0, 1) := by decide +kernel
theorem dX7_response_136 : decode cX7_response 136 = .ok (.getfield 17, 3) := by decide +kernel
theorem dX7_response_139 : decode cX7_response 139 = .ok (.iload 5, 2) := by decide +kernel
theorem dX7_response_141 : decode cX7_response 141 = .ok (.iaload, 1) := by decide +kernel
theorem dX7_response_142 : decode cX7_response 142 = .ok (.goto 4, 3) := by decide +kernel
theorem dX7_response_145 : decode cX7_response 145 = .ok (.iconst 1, 1) := by decide +kernel
theorem dX7_response_146 : decode cX7_response 146 = .ok (.idiv, 1) := by decide +kernel
theorem dX7_response_147 : decode cX7_response 147 = .ok (.aload_n 0, 1) := by decide +kernel
theorem dX7_response_148 : decode cX7_response 148 = .ok (.iload 5, 2) := by decide +kernel
theorem dX7_response_150 : decode cX7_response 150 = .ok (.invokevirtual 195, 3) := by decide +kernel
theorem dX7_response_153 : decode cX7_response 153 = .ok (.imul, 1) := by decide +kernel
theorem dX7_response_154 : decode cX7_response 154 = .ok (.goto 4, 3) := by decide +kernel
theorem dX7_response_157 : decode cX7_response 157 = .ok (.iconst 0, 1) := by decide +kernel
theorem dX7_response_158 : decode cX7_response 158 = .ok (.iadd, 1) := by decide +kernel
theorem dX7_response_159 : decode cX7_response 159 = .ok (.istore_n 3, 1) := by decide +kernel
theorem dX7_response_160 : decode cX7_response 160 = .ok (.iinc 5 1, 3) := by decide +kernel
theorem dX7_response_163 : decode cX7_response 163 = .ok (.goto (-99), 3) := by decide +kernel
theorem dX7_response_166 : decode cX7_response 166 = .ok (.goto (-123), 3) := by decide +kernel
theorem dX7_response_169 : decode cX7_response 169 = .ok (.iload_n 3, 1) := by decide +kernel
theorem dX7_response_170 : decode cX7_response 170 = .ok (.sipush 1000, 3) := by decide +kernel
theorem dX7_response_173 : decode cX7_response 173 = .ok (.if_icmp .le 7, 3) := by decide +kernel
theorem dX7_response_176 : decode cX7_response 176 = .ok (.iconst (-1), 1) := by decide +kernel
theorem dX7_response_177 : decode cX7_response 177 = .ok (.goto 4, 3) := by decide +kernel
theorem dX7_response_180 : decode cX7_response 180 = .ok (.iload_n 3, 1) := by decide +kernel
theorem dX7_response_181 : decode cX7_response 181 = .ok (.ireturn, 1) := by decide +kernel
theorem dX7_load_0 : decode cX7_load 0 = .ok (.aload_n 0, 1) := by decide +kernel
theorem dX7_load_1 : decode cX7_load 1 = .ok (.iconst 0, 1) := by decide +kernel
theorem dX7_load_2 : decode cX7_load 2 = .ok (.putfield 109, 3) := by decide +kernel
theorem dX7_load_5 : decode cX7_load 5 = .ok (.dconst 0, 1) := by decide +kernel
theorem dX7_load_6 : decode cX7_load 6 = .ok (.dstore_n 1, 1) := by decide +kernel
theorem dX7_load_7 : decode cX7_load 7 = .ok (.iconst 0, 1) := by decide +kernel
theorem dX7_load_8 : decode cX7_load 8 = .ok (.istore_n 3, 1) := by decide +kernel
theorem dX7_load_9 : decode cX7_load 9 = .ok (.iload_n 3, 1) := by decide +kernel
theorem dX7_load_10 : decode cX7_load 10 = .ok (.aload_n 0, 1) := by decide +kernel
theorem dX7_load_11 : decode cX7_load 11 = .ok (.getfield 112, 3) := by decide +kernel
theorem dX7_load_14 : decode cX7_load 14 = .ok (.if_icmp .ge 39, 3) := by decide +kernel
theorem dX7_load_17 : decode cX7_load 17 = .ok (.aload_n 0, 1) := by decide +kernel
theorem dX7_load_18 : decode cX7_load 18 = .ok (.getfield 17, 3) := by decide +kernel
theorem dX7_load_21 : decode cX7_load 21 = .ok (.iload_n 3, 1) := by decide +kernel
theorem dX7_load_22 : decode cX7_load 22 = .ok (.iaload, 1) := by decide +kernel
theorem dX7_load_23 : decode cX7_load 23 = .ok (.ifCond .le 22, 3) := by decide +kernel
theorem dX7_load_26 : decode cX7_load 26 = .ok (.dload_n 1, 1) := by decide +kernel
theorem dX7_load_27 : decode cX7_load 27 = .ok (.aload_n 0, 1) := by decide +kernel
theorem dX7_load_28 : decode cX7_load 28 = .ok (.iload_n 3, 1) := by decide +kernel
theorem dX7_load_29 : decode cX7_load 29 = .ok (.invokevirtual 195, 3) := by decide +kernel
theorem dX7_load_32 : decode cX7_load 32 = .ok (.i2d, 1) := by decide +kernel
theorem dX7_load_33 : decode cX7_load 33 = .ok (.aload_n 0, 1) := by decide +kernel
theorem dX7_load_34 : decode cX7_load 34 = .ok (.getfield 17, 3) := by decide +kernel
theorem dX7_load_37 : decode cX7_load 37 = .ok (.iload_n 3, 1) := by decide +kernel
theorem dX7_load_38 : decode cX7_load 38 = .ok (.iaload, 1) := by decide +kernel
theorem dX7_load_39 : decode cX7_load 39 = .ok (.i2d, 1) := by decide +kernel
theorem dX7_load_40 : decode cX7_load 40 = .ok (.ddiv, 1) := by decide +kernel
theorem dX7_load_41 : decode cX7_load 41 = .ok (.dadd, 1) := by decide +kernel
theorem dX7_load_42 : decode cX7_load 42 = .ok (.goto 4, 3) := by decide +kernel
theorem dX7_load_45 : decode cX7_load 45 = .ok (.dload_n 1, 1) := by decide +kernel
theorem dX7_load_46 : decode cX7_load 46 = .ok (.dstore_n 1, 1) := by decide +kernel
theorem dX7_load_47 : decode cX7_load 47 = .ok (.iinc 3 1, 3) := by decide +kernel
theorem dX7_load_50 : decode cX7_load 50 = .ok (.goto (-41), 3) := by decide +kernel
theorem dX7_load_53 : decode cX7_load 53 = .ok (.dload_n 1, 1) := by decide +kernel
theorem dX7_load_54 : decode cX7_load 54 = .ok (.dreturn, 1) := by decide +kernel
theorem dX7_look_0 : decode cX7_look 0 = .ok (.aload_n 0, 1) := by decide +kernel
theorem dX7_look_1 : decode cX7_look 1 = .ok (.iconst 0, 1) := by decide +kernel
theorem dX7_look_2 : decode cX7_look 2 = .ok (.putfield 109, 3) := by decide +kernel
theorem dX7_look_5 : decode cX7_look 5 = .ok (.iload_n 1, 1) := by decide +kernel
theorem dX7_look_6 : decode cX7_look 6 = .ok (.ifCond .ne 10, 3) := by decide +kernel
theorem dX7_look_9 : decode cX7_look 9 = .ok (.aload_n 0, 1) := by decide +kernel
theorem dX7_look_10 : decode cX7_look 10 = .ok (.getfield 139, 3) := by decide +kernel
theorem dX7_look_13 : decode cX7_look 13 = .ok (.goto 72, 3) := by decide +kernel
theorem dX7_look_16 : decode cX7_look 16 = .ok (.iload_n 1, 1) := by decide +kernel
theorem dX7_look_17 : decode cX7_look 17 = .ok (.iconst 1, 1) := by decide +kernel
theorem dX7_look_18 : decode cX7_look 18 = .ok (.if_icmp .ne 10, 3) := by decide +kernel
theorem dX7_look_21 : decode cX7_look 21 = .ok (.aload_n 0, 1) := by decide +kernel
theorem dX7_look_22 : decode cX7_look 22 = .ok (.getfield 112, 3) := by decide +kernel
theorem dX7_look_25 : decode cX7_look 25 = .ok (.goto 60, 3) := by decide +kernel
theorem dX7_look_28 : decode cX7_look 28 = .ok (.iload_n 1, 1) := by decide +kernel
theorem dX7_look_29 : decode cX7_look 29 = .ok (.iconst 2, 1) := by decide +kernel
theorem dX7_look_30 : decode cX7_look 30 = .ok (.if_icmp .ne 10, 3) := by decide +kernel
theorem dX7_look_33 : decode cX7_look 33 = .ok (.aload_n 0, 1) := by decide +kernel
theorem dX7_look_34 : decode cX7_look 34 = .ok (.getfield 126, 3) := by decide +kernel
theorem dX7_look_37 : decode cX7_look 37 = .ok (.goto 48, 3) := by decide +kernel
theorem dX7_look_40 : decode cX7_look 40 = .ok (.iload_n 1, 1) := by decide +kernel
theorem dX7_look_41 : decode cX7_look 41 = .ok (.iconst 3, 1) := by decide +kernel
theorem dX7_look_42 : decode cX7_look 42 = .ok (.if_icmp .ne 18, 3) := by decide +kernel
theorem dX7_look_45 : decode cX7_look 45 = .ok (.aload_n 0, 1) := by decide +kernel
theorem dX7_look_46 : decode cX7_look 46 = .ok (.getfield 119, 3) := by decide +kernel
theorem dX7_look_49 : decode cX7_look 49 = .ok (.ifCond .eq 7, 3) := by decide +kernel
theorem dX7_look_52 : decode cX7_look 52 = .ok (.iconst 1, 1) := by decide +kernel
theorem dX7_look_53 : decode cX7_look 53 = .ok (.goto 32, 3) := by decide +kernel
theorem dX7_look_56 : decode cX7_look 56 = .ok (.iconst 0, 1) := by decide +kernel
theorem dX7_look_57 : decode cX7_look 57 = .ok (.goto 28, 3) := by decide +kernel
theorem dX7_look_60 : decode cX7_look 60 = .ok (.iload_n 1, 1) := by decide +kernel
theorem dX7_look_61 : decode cX7_look 61 = .ok (.iconst 4, 1) := by decide +kernel
theorem dX7_look_62 : decode cX7_look 62 = .ok (.if_icmp .ne 10, 3) := by decide +kernel
theorem dX7_look_65 : decode cX7_look 65 = .ok (.aload_n 0, 1) := by decide +kernel
theorem dX7_look_66 : decode cX7_look 66 = .ok (.getfield 7, 3) := by decide +kernel
theorem dX7_look_69 : decode cX7_look 69 = .ok (.goto 16, 3) := by decide +kernel
theorem dX7_look_72 : decode cX7_look 72 = .ok (.iload_n 1, 1) := by decide +kernel
theorem dX7_look_73 : decode cX7_look 73 = .ok (.iconst 5, 1) := by decide +kernel
theorem dX7_look_74 : decode cX7_look 74 = .ok (.if_icmp .ne 10, 3) := by decide +kernel
theorem dX7_look_77 : decode cX7_look 77 = .ok (.aload_n 0, 1) := by decide +kernel
theorem dX7_look_78 : decode cX7_look 78 = .ok (.getfield 136, 3) := by decide +kernel
theorem dX7_look_81 : decode cX7_look 81 = .ok (.goto 4, 3) := by decide +kernel
theorem dX7_look_84 : decode cX7_look 84 = .ok (.iconst (-1), 1) := by decide +kernel
theorem dX7_look_85 : decode cX7_look 85 = .ok (.ireturn, 1) := by decide +kernel
