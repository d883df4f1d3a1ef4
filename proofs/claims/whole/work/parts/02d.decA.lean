/-! decode rows -/
theorem dX0_init_0 : decode cX0_init 0 = .ok (.aload_n 0, 1) := by decide +kernel
theorem dX0_init_1 : decode cX0_init 1 = .ok (.invokespecial 3, 3) := by decide +kernel
theorem dX0_init_4 : decode cX0_init 4 = .ok (.aload_n 0, 1) := by decide +kernel
theorem dX0_init_5 : decode cX0_init 5 = .ok (.sipush 144, 3) := by decide +kernel
theorem dX0_init_8 : decode cX0_init 8 = .ok (.newarray .int, 2) := by decide +kernel
theorem dX0_init_10 : decode cX0_init 10 = .ok (.putfield 9, 3) := by decide +kernel
theorem dX0_init_13 : decode cX0_init 13 = .ok (.aload_n 0, 1) := by decide +kernel
theorem dX0_init_14 : decode cX0_init 14 = .ok (.aload_n 1, 1) := by decide +kernel
theorem dX0_init_15 : decode cX0_init 15 = .ok (.putfield 15, 3) := by decide +kernel
theorem dX0_init_18 : decode cX0_init 18 = .ok (.aload_n 0, 1) := by decide +kernel
theorem dX0_init_19 : decode cX0_init 19 = .ok (.aload_n 2, 1) := by decide +kernel
theorem dX0_init_20 : decode cX0_init 20 = .ok (.putfield 19, 3) := by decide +kernel
theorem dX0_init_23 : decode cX0_init 23 = .ok (.aload_n 0, 1) := by decide +kernel
theorem dX0_init_24 : decode cX0_init 24 = .ok (.aload_n 3, 1) := by decide +kernel
theorem dX0_init_25 : decode cX0_init 25 = .ok (.putfield 23, 3) := by decide +kernel
theorem dX0_init_28 : decode cX0_init 28 = .ok (.aload_n 0, 1) := by decide +kernel
theorem dX0_init_29 : decode cX0_init 29 = .ok (.aload 4, 2) := by decide +kernel
theorem dX0_init_31 : decode cX0_init 31 = .ok (.putfield 27, 3) := by decide +kernel
theorem dX0_init_34 : decode cX0_init 34 = .ok (.return_, 1) := by decide +kernel
theorem dX0_ask_0 : decode cX0_ask 0 = .ok (.aload_n 0, 1) := by decide +kernel
theorem dX0_ask_1 : decode cX0_ask 1 = .ok (.getfield 19, 3) := by decide +kernel
theorem dX0_ask_4 : decode cX0_ask 4 = .ok (.iload 4, 2) := by decide +kernel
theorem dX0_ask_6 : decode cX0_ask 6 = .ok (.invokevirtual 31, 3) := by decide +kernel
theorem dX0_ask_9 : decode cX0_ask 9 = .ok (.astore 6, 2) := by decide +kernel
theorem dX0_ask_11 : decode cX0_ask 11 = .ok (.aload_n 1, 1) := by decide +kernel
theorem dX0_ask_12 : decode cX0_ask 12 = .ok (.getfield 37, 3) := by decide +kernel
theorem dX0_ask_15 : decode cX0_ask 15 = .ok (.ifCond .eq 8, 3) := by decide +kernel
theorem dX0_ask_18 : decode cX0_ask 18 = .ok (.aload 6, 2) := by decide +kernel
theorem dX0_ask_20 : decode cX0_ask 20 = .ok (.goto 11, 3) := by decide +kernel
theorem dX0_ask_23 : decode cX0_ask 23 = .ok (.aload_n 0, 1) := by decide +kernel
theorem dX0_ask_24 : decode cX0_ask 24 = .ok (.getfield 19, 3) := by decide +kernel
theorem dX0_ask_27 : decode cX0_ask 27 = .ok (.iload_n 3, 1) := by decide +kernel
theorem dX0_ask_28 : decode cX0_ask 28 = .ok (.invokevirtual 31, 3) := by decide +kernel
theorem dX0_ask_31 : decode cX0_ask 31 = .ok (.astore 7, 2) := by decide +kernel
theorem dX0_ask_33 : decode cX0_ask 33 = .ok (.aload_n 0, 1) := by decide +kernel
theorem dX0_ask_34 : decode cX0_ask 34 = .ok (.iconst 2, 1) := by decide +kernel
theorem dX0_ask_35 : decode cX0_ask 35 = .ok (.putfield 43, 3) := by decide +kernel
theorem dX0_ask_38 : decode cX0_ask 38 = .ok (.aload_n 0, 1) := by decide +kernel
theorem dX0_ask_39 : decode cX0_ask 39 = .ok (.iconst (-1), 1) := by decide +kernel
theorem dX0_ask_40 : decode cX0_ask 40 = .ok (.putfield 47, 3) := by decide +kernel
theorem dX0_ask_43 : decode cX0_ask 43 = .ok (.aload_n 0, 1) := by decide +kernel
theorem dX0_ask_44 : decode cX0_ask 44 = .ok (.iconst (-1), 1) := by decide +kernel
theorem dX0_ask_45 : decode cX0_ask 45 = .ok (.putfield 50, 3) := by decide +kernel
theorem dX0_ask_48 : decode cX0_ask 48 = .ok (.aload_n 0, 1) := by decide +kernel
theorem dX0_ask_49 : decode cX0_ask 49 = .ok (.iconst 0, 1) := by decide +kernel
theorem dX0_ask_50 : decode cX0_ask 50 = .ok (.putfield 53, 3) := by decide +kernel
theorem dX0_ask_53 : decode cX0_ask 53 = .ok (.iconst 0, 1) := by decide +kernel
theorem dX0_ask_54 : decode cX0_ask 54 = .ok (.istore 8, 2) := by decide +kernel
theorem dX0_ask_56 : decode cX0_ask 56 = .ok (.iload 8, 2) := by decide +kernel
theorem dX0_ask_58 : decode cX0_ask 58 = .ok (.aload_n 0, 1) := by decide +kernel
theorem dX0_ask_59 : decode cX0_ask 59 = .ok (.getfield 15, 3) := by decide +kernel
theorem dX0_ask_62 : decode cX0_ask 62 = .ok (.getfield 56, 3) := by decide +kernel
theorem dX0_ask_65 : decode cX0_ask 65 = .ok (.if_icmp .ge 191, 3) := by decide +kernel
theorem dX0_ask_68 : decode cX0_ask 68 = .ok (.aload_n 0, 1) := by decide +kernel
theorem dX0_ask_69 : decode cX0_ask 69 = .ok (.getfield 50, 3) := by decide +kernel
theorem dX0_ask_72 : decode cX0_ask 72 = .ok (.iconst (-1), 1) := by decide +kernel
theorem dX0_ask_73 : decode cX0_ask 73 = .ok (.if_icmp .ne 183, 3) := by decide +kernel
theorem dX0_ask_76 : decode cX0_ask 76 = .ok (.aload 6, 2) := by decide +kernel
theorem dX0_ask_78 : decode cX0_ask 78 = .ok (.getfield 61, 3) := by decide +kernel
theorem dX0_ask_81 : decode cX0_ask 81 = .ok (.iload 5, 2) := by decide +kernel
theorem dX0_ask_83 : decode cX0_ask 83 = .ok (.iaload, 1) := by decide +kernel
theorem dX0_ask_84 : decode cX0_ask 84 = .ok (.iload 8, 2) := by decide +kernel
theorem dX0_ask_86 : decode cX0_ask 86 = .ok (.invokestatic 66, 3) := by decide +kernel
theorem dX0_ask_89 : decode cX0_ask 89 = .ok (.ifCond .ne 6, 3) := by decide +kernel
theorem dX0_ask_92 : decode cX0_ask 92 = .ok (.goto 158, 3) := by decide +kernel
theorem dX0_ask_95 : decode cX0_ask 95 = .ok (.aload_n 0, 1) := by decide +kernel
theorem dX0_ask_96 : decode cX0_ask 96 = .ok (.dup, 1) := by decide +kernel
theorem dX0_ask_97 : decode cX0_ask 97 = .ok (.getfield 53, 3) := by decide +kernel
theorem dX0_ask_100 : decode cX0_ask 100 = .ok (.iconst 1, 1) := by decide +kernel
theorem dX0_ask_101 : decode cX0_ask 101 = .ok (.iload 8, 2) := by decide +kernel
theorem dX0_ask_103 : decode cX0_ask 103 = .ok (.ishl, 1) := by decide +kernel
theorem dX0_ask_104 : decode cX0_ask 104 = .ok (.ior, 1) := by decide +kernel
theorem dX0_ask_105 : decode cX0_ask 105 = .ok (.putfield 53, 3) := by decide +kernel
theorem dX0_ask_108 : decode cX0_ask 108 = .ok (.aload_n 0, 1) := by decide +kernel
theorem dX0_ask_109 : decode cX0_ask 109 = .ok (.getfield 27, 3) := by decide +kernel
theorem dX0_ask_112 : decode cX0_ask 112 = .ok (.aload_n 1, 1) := by decide +kernel
theorem dX0_ask_113 : decode cX0_ask 113 = .ok (.iload_n 2, 1) := by decide +kernel
theorem dX0_ask_114 : decode cX0_ask 114 = .ok (.aload 7, 2) := by decide +kernel
theorem dX0_ask_116 : decode cX0_ask 116 = .ok (.aload 6, 2) := by decide +kernel
theorem dX0_ask_118 : decode cX0_ask 118 = .ok (.iload 8, 2) := by decide +kernel
theorem dX0_ask_120 : decode cX0_ask 120 = .ok (.aload_n 0, 1) := by decide +kernel
theorem dX0_ask_121 : decode cX0_ask 121 = .ok (.getfield 15, 3) := by decide +kernel
theorem dX0_ask_124 : decode cX0_ask 124 = .ok (.getfield 70, 3) := by decide +kernel
theorem dX0_ask_127 : decode cX0_ask 127 = .ok (.iload 8, 2) := by decide +kernel
theorem dX0_ask_129 : decode cX0_ask 129 = .ok (.iaload, 1) := by decide +kernel
theorem dX0_ask_130 : decode cX0_ask 130 = .ok (.invokevirtual 73, 3) := by decide +kernel
theorem dX0_ask_133 : decode cX0_ask 133 = .ok (.invokevirtual 77, 3) := by decide +kernel
theorem dX0_ask_136 : decode cX0_ask 136 = .ok (.istore 9, 2) := by decide +kernel
theorem dX0_ask_138 : decode cX0_ask 138 = .ok (.iload 9, 2) := by decide +kernel
theorem dX0_ask_140 : decode cX0_ask 140 = .ok (.iload 8, 2) := by decide +kernel
theorem dX0_ask_142 : decode cX0_ask 142 = .ok (.invokestatic 66, 3) := by decide +kernel
theorem dX0_ask_145 : decode cX0_ask 145 = .ok (.ifCond .eq 8, 3) := by decide +kernel
theorem dX0_ask_148 : decode cX0_ask 148 = .ok (.iload 8, 2) := by decide +kernel
theorem dX0_ask_150 : decode cX0_ask 150 = .ok (.goto 8, 3) := by decide +kernel
theorem dX0_ask_153 : decode cX0_ask 153 = .ok (.iload 9, 2) := by decide +kernel
theorem dX0_ask_155 : decode cX0_ask 155 = .ok (.invokestatic 83, 3) := by decide +kernel
theorem dX0_ask_158 : decode cX0_ask 158 = .ok (.istore 10, 2) := by decide +kernel
theorem dX0_ask_160 : decode cX0_ask 160 = .ok (.iload 10, 2) := by decide +kernel
theorem dX0_ask_162 : decode cX0_ask 162 = .ok (.iconst (-1), 1) := by decide +kernel
theorem dX0_ask_163 : decode cX0_ask 163 = .ok (.if_icmp .ne 6, 3) := by decide +kernel
theorem dX0_ask_166 : decode cX0_ask 166 = .ok (.goto 84, 3) := by decide +kernel
theorem dX0_ask_169 : decode cX0_ask 169 = .ok (.aload 6, 2) := by decide +kernel
theorem dX0_ask_171 : decode cX0_ask 171 = .ok (.getfield 87, 3) := by decide +kernel
theorem dX0_ask_174 : decode cX0_ask 174 = .ok (.iload 10, 2) := by decide +kernel
theorem dX0_ask_176 : decode cX0_ask 176 = .ok (.iaload, 1) := by decide +kernel
theorem dX0_ask_177 : decode cX0_ask 177 = .ok (.istore 11, 2) := by decide +kernel
theorem dX0_ask_179 : decode cX0_ask 179 = .ok (.aload_n 0, 1) := by decide +kernel
theorem dX0_ask_180 : decode cX0_ask 180 = .ok (.getfield 23, 3) := by decide +kernel
theorem dX0_ask_183 : decode cX0_ask 183 = .ok (.getfield 90, 3) := by decide +kernel
theorem dX0_ask_186 : decode cX0_ask 186 = .ok (.iload 5, 2) := by decide +kernel
theorem dX0_ask_188 : decode cX0_ask 188 = .ok (.bipush 8, 2) := by decide +kernel
theorem dX0_ask_190 : decode cX0_ask 190 = .ok (.imul, 1) := by decide +kernel
theorem dX0_ask_191 : decode cX0_ask 191 = .ok (.iload 11, 2) := by decide +kernel
theorem dX0_ask_193 : decode cX0_ask 193 = .ok (.iadd, 1) := by decide +kernel
theorem dX0_ask_194 : decode cX0_ask 194 = .ok (.iaload, 1) := by decide +kernel
theorem dX0_ask_195 : decode cX0_ask 195 = .ok (.istore 12, 2) := by decide +kernel
theorem dX0_ask_197 : decode cX0_ask 197 = .ok (.iload 11, 2) := by decide +kernel
theorem dX0_ask_199 : decode cX0_ask 199 = .ok (.iload 5, 2) := by decide +kernel
theorem dX0_ask_201 : decode cX0_ask 201 = .ok (.if_icmp .eq 9, 3) := by decide +kernel
theorem dX0_ask_204 : decode cX0_ask 204 = .ok (.iload 12, 2) := by decide +kernel
theorem dX0_ask_206 : decode cX0_ask 206 = .ok (.iconst (-1), 1) := by decide +kernel
theorem dX0_ask_207 : decode cX0_ask 207 = .ok (.if_icmp .eq 43, 3) := by decide +kernel
theorem dX0_ask_210 : decode cX0_ask 210 = .ok (.aload_n 0, 1) := by decide +kernel
theorem dX0_ask_211 : decode cX0_ask 211 = .ok (.iload 11, 2) := by decide +kernel
theorem dX0_ask_213 : decode cX0_ask 213 = .ok (.iload 5, 2) := by decide +kernel
theorem dX0_ask_215 : decode cX0_ask 215 = .ok (.if_icmp .ne 7, 3) := by decide +kernel
theorem dX0_ask_218 : decode cX0_ask 218 = .ok (.iconst 0, 1) := by decide +kernel
theorem dX0_ask_219 : decode cX0_ask 219 = .ok (.goto 4, 3) := by decide +kernel
theorem dX0_ask_222 : decode cX0_ask 222 = .ok (.iconst 1, 1) := by decide +kernel
theorem dX0_ask_223 : decode cX0_ask 223 = .ok (.putfield 43, 3) := by decide +kernel
theorem dX0_ask_226 : decode cX0_ask 226 = .ok (.aload_n 0, 1) := by decide +kernel
theorem dX0_ask_227 : decode cX0_ask 227 = .ok (.iload 11, 2) := by decide +kernel
theorem dX0_ask_229 : decode cX0_ask 229 = .ok (.iload 5, 2) := by decide +kernel
theorem dX0_ask_231 : decode cX0_ask 231 = .ok (.if_icmp .ne 8, 3) := by decide +kernel
theorem dX0_ask_234 : decode cX0_ask 234 = .ok (.iload 10, 2) := by decide +kernel
theorem dX0_ask_236 : decode cX0_ask 236 = .ok (.goto 5, 3) := by decide +kernel
theorem dX0_ask_239 : decode cX0_ask 239 = .ok (.iload 12, 2) := by decide +kernel
theorem dX0_ask_241 : decode cX0_ask 241 = .ok (.putfield 47, 3) := by decide +kernel
theorem dX0_ask_244 : decode cX0_ask 244 = .ok (.aload_n 0, 1) := by decide +kernel
theorem dX0_ask_245 : decode cX0_ask 245 = .ok (.iload 8, 2) := by decide +kernel
theorem dX0_ask_247 : decode cX0_ask 247 = .ok (.putfield 50, 3) := by decide +kernel
theorem dX0_ask_250 : decode cX0_ask 250 = .ok (.iinc 8 1, 3) := by decide +kernel
theorem dX0_ask_253 : decode cX0_ask 253 = .ok (.goto (-197), 3) := by decide +kernel
theorem dX0_ask_256 : decode cX0_ask 256 = .ok (.return_, 1) := by decide +kernel
theorem dX0_choose_0 : decode cX0_choose 0 = .ok (.aload_n 0, 1) := by decide +kernel
theorem dX0_choose_1 : decode cX0_choose 1 = .ok (.getfield 19, 3) := by decide +kernel
theorem dX0_choose_4 : decode cX0_choose 4 = .ok (.iload 4, 2) := by decide +kernel
theorem dX0_choose_6 : decode cX0_choose 6 = .ok (.invokevirtual 31, 3) := by decide +kernel
theorem dX0_choose_9 : decode cX0_choose 9 = .ok (.astore 6, 2) := by decide +kernel
theorem dX0_choose_11 : decode cX0_choose 11 = .ok (.aload_n 1, 1) := by decide +kernel
theorem dX0_choose_12 : decode cX0_choose 12 = .ok (.getfield 37, 3) := by decide +kernel
theorem dX0_choose_15 : decode cX0_choose 15 = .ok (.ifCond .eq 8, 3) := by decide +kernel
theorem dX0_choose_18 : decode cX0_choose 18 = .ok (.aload 6, 2) := by decide +kernel
theorem dX0_choose_20 : decode cX0_choose 20 = .ok (.goto 11, 3) := by decide +kernel
theorem dX0_choose_23 : decode cX0_choose 23 = .ok (.aload_n 0, 1) := by decide +kernel
theorem dX0_choose_24 : decode cX0_choose 24 = .ok (.getfield 19, 3) := by decide +kernel
theorem dX0_choose_27 : decode cX0_choose 27 = .ok (.iload_n 3, 1) := by decide +kernel
theorem dX0_choose_28 : decode cX0_choose 28 = .ok (.invokevirtual 31, 3) := by decide +kernel
theorem dX0_choose_31 : decode cX0_choose 31 = .ok (.astore 7, 2) := by decide +kernel
theorem dX0_choose_33 : decode cX0_choose 33 = .ok (.aload_n 0, 1) := by decide +kernel
theorem dX0_choose_34 : decode cX0_choose 34 = .ok (.iconst 0, 1) := by decide +kernel
theorem dX0_choose_35 : decode cX0_choose 35 = .ok (.putfield 95, 3) := by decide +kernel
theorem dX0_choose_38 : decode cX0_choose 38 = .ok (.aload_n 0, 1) := by decide +kernel
theorem dX0_choose_39 : decode cX0_choose 39 = .ok (.iconst 0, 1) := by decide +kernel
theorem dX0_choose_40 : decode cX0_choose 40 = .ok (.putfield 98, 3) := by decide +kernel
theorem dX0_choose_43 : decode cX0_choose 43 = .ok (.iconst 0, 1) := by decide +kernel
theorem dX0_choose_44 : decode cX0_choose 44 = .ok (.istore 8, 2) := by decide +kernel
theorem dX0_choose_46 : decode cX0_choose 46 = .ok (.iload 8, 2) := by decide +kernel
theorem dX0_choose_48 : decode cX0_choose 48 = .ok (.aload_n 0, 1) := by decide +kernel
theorem dX0_choose_49 : decode cX0_choose 49 = .ok (.getfield 15, 3) := by decide +kernel
theorem dX0_choose_52 : decode cX0_choose 52 = .ok (.getfield 56, 3) := by decide +kernel
theorem dX0_choose_55 : decode cX0_choose 55 = .ok (.if_icmp .ge 171, 3) := by decide +kernel
theorem dX0_choose_58 : decode cX0_choose 58 = .ok (.aload_n 0, 1) := by decide +kernel
theorem dX0_choose_59 : decode cX0_choose 59 = .ok (.getfield 95, 3) := by decide +kernel
theorem dX0_choose_62 : decode cX0_choose 62 = .ok (.aload_n 0, 1) := by decide +kernel
theorem dX0_choose_63 : decode cX0_choose 63 = .ok (.getfield 98, 3) := by decide +kernel
theorem dX0_choose_66 : decode cX0_choose 66 = .ok (.ior, 1) := by decide +kernel
theorem dX0_choose_67 : decode cX0_choose 67 = .ok (.ifCond .ne 159, 3) := by decide +kernel
theorem dX0_choose_70 : decode cX0_choose 70 = .ok (.aload 6, 2) := by decide +kernel
theorem dX0_choose_72 : decode cX0_choose 72 = .ok (.getfield 61, 3) := by decide +kernel
theorem dX0_choose_75 : decode cX0_choose 75 = .ok (.iload 5, 2) := by decide +kernel
theorem dX0_choose_77 : decode cX0_choose 77 = .ok (.iaload, 1) := by decide +kernel
theorem dX0_choose_78 : decode cX0_choose 78 = .ok (.iload 8, 2) := by decide +kernel
theorem dX0_choose_80 : decode cX0_choose 80 = .ok (.invokestatic 66, 3) := by decide +kernel
theorem dX0_choose_83 : decode cX0_choose 83 = .ok (.ifCond .ne 6, 3) := by decide +kernel
theorem dX0_choose_86 : decode cX0_choose 86 = .ok (.goto 134, 3) := by decide +kernel
theorem dX0_choose_89 : decode cX0_choose 89 = .ok (.aload_n 0, 1) := by decide +kernel
theorem dX0_choose_90 : decode cX0_choose 90 = .ok (.getfield 27, 3) := by decide +kernel
theorem dX0_choose_93 : decode cX0_choose 93 = .ok (.aload_n 1, 1) := by decide +kernel
theorem dX0_choose_94 : decode cX0_choose 94 = .ok (.iload_n 2, 1) := by decide +kernel
theorem dX0_choose_95 : decode cX0_choose 95 = .ok (.aload 7, 2) := by decide +kernel
theorem dX0_choose_97 : decode cX0_choose 97 = .ok (.aload 6, 2) := by decide +kernel
theorem dX0_choose_99 : decode cX0_choose 99 = .ok (.iload 8, 2) := by decide +kernel
theorem dX0_choose_101 : decode cX0_choose 101 = .ok (.aload_n 0, 1) := by decide +kernel
theorem dX0_choose_102 : decode cX0_choose 102 = .ok (.getfield 15, 3) := by decide +kernel
theorem dX0_choose_105 : decode cX0_choose 105 = .ok (.getfield 70, 3) := by decide +kernel
theorem dX0_choose_108 : decode cX0_choose 108 = .ok (.iload 8, 2) := by decide +kernel
theorem dX0_choose_110 : decode cX0_choose 110 = .ok (.iaload, 1) := by decide +kernel
theorem dX0_choose_111 : decode cX0_choose 111 = .ok (.invokevirtual 73, 3) := by decide +kernel
theorem dX0_choose_114 : decode cX0_choose 114 = .ok (.invokevirtual 77, 3) := by decide +kernel
theorem dX0_choose_117 : decode cX0_choose 117 = .ok (.istore 9, 2) := by decide +kernel
theorem dX0_choose_119 : decode cX0_choose 119 = .ok (.iload 9, 2) := by decide +kernel
theorem dX0_choose_121 : decode cX0_choose 121 = .ok (.iload 8, 2) := by decide +kernel
theorem dX0_choose_123 : decode cX0_choose 123 = .ok (.invokestatic 66, 3) := by decide +kernel
theorem dX0_choose_126 : decode cX0_choose 126 = .ok (.ifCond .eq 12, 3) := by decide +kernel
theorem dX0_choose_129 : decode cX0_choose 129 = .ok (.aload_n 0, 1) := by decide +kernel
theorem dX0_choose_130 : decode cX0_choose 130 = .ok (.iconst 1, 1) := by decide +kernel
theorem dX0_choose_131 : decode cX0_choose 131 = .ok (.iload 8, 2) := by decide +kernel
theorem dX0_choose_133 : decode cX0_choose 133 = .ok (.ishl, 1) := by decide +kernel
theorem dX0_choose_134 : decode cX0_choose 134 = .ok (.putfield 95, 3) := by decide +kernel
theorem dX0_choose_137 : decode cX0_choose 137 = .ok (.return_, 1) := by decide +kernel
theorem dX0_choose_138 : decode cX0_choose 138 = .ok (.aload_n 0, 1) := by decide +kernel
theorem dX0_choose_139 : decode cX0_choose 139 = .ok (.iload 9, 2) := by decide +kernel
theorem dX0_choose_141 : decode cX0_choose 141 = .ok (.aload 6, 2) := by decide +kernel
theorem dX0_choose_143 : decode cX0_choose 143 = .ok (.getfield 61, 3) := by decide +kernel
theorem dX0_choose_146 : decode cX0_choose 146 = .ok (.iload 5, 2) := by decide +kernel
theorem dX0_choose_148 : decode cX0_choose 148 = .ok (.iaload, 1) := by decide +kernel
theorem dX0_choose_149 : decode cX0_choose 149 = .ok (.iand, 1) := by decide +kernel
theorem dX0_choose_150 : decode cX0_choose 150 = .ok (.putfield 95, 3) := by decide +kernel
theorem dX0_choose_153 : decode cX0_choose 153 = .ok (.iconst 0, 1) := by decide +kernel
theorem dX0_choose_154 : decode cX0_choose 154 = .ok (.istore 10, 2) := by decide +kernel
theorem dX0_choose_156 : decode cX0_choose 156 = .ok (.iload 10, 2) := by decide +kernel
theorem dX0_choose_158 : decode cX0_choose 158 = .ok (.bipush 8, 2) := by decide +kernel
theorem dX0_choose_160 : decode cX0_choose 160 = .ok (.if_icmp .ge 60, 3) := by decide +kernel
theorem dX0_choose_163 : decode cX0_choose 163 = .ok (.aload_n 0, 1) := by decide +kernel
theorem dX0_choose_164 : decode cX0_choose 164 = .ok (.getfield 23, 3) := by decide +kernel
theorem dX0_choose_167 : decode cX0_choose 167 = .ok (.getfield 90, 3) := by decide +kernel
theorem dX0_choose_170 : decode cX0_choose 170 = .ok (.iload 5, 2) := by decide +kernel
theorem dX0_choose_172 : decode cX0_choose 172 = .ok (.bipush 8, 2) := by decide +kernel
theorem dX0_choose_174 : decode cX0_choose 174 = .ok (.imul, 1) := by decide +kernel
theorem dX0_choose_175 : decode cX0_choose 175 = .ok (.iload 10, 2) := by decide +kernel
theorem dX0_choose_177 : decode cX0_choose 177 = .ok (.iadd, 1) := by decide +kernel
theorem dX0_choose_178 : decode cX0_choose 178 = .ok (.iaload, 1) := by decide +kernel
theorem dX0_choose_179 : decode cX0_choose 179 = .ok (.istore 11, 2) := by decide +kernel
theorem dX0_choose_181 : decode cX0_choose 181 = .ok (.iload 9, 2) := by decide +kernel
theorem dX0_choose_183 : decode cX0_choose 183 = .ok (.aload 6, 2) := by decide +kernel
theorem dX0_choose_185 : decode cX0_choose 185 = .ok (.getfield 61, 3) := by decide +kernel
theorem dX0_choose_188 : decode cX0_choose 188 = .ok (.iload 10, 2) := by decide +kernel
theorem dX0_choose_190 : decode cX0_choose 190 = .ok (.iaload, 1) := by decide +kernel
theorem dX0_choose_191 : decode cX0_choose 191 = .ok (.iand, 1) := by decide +kernel
theorem dX0_choose_192 : decode cX0_choose 192 = .ok (.ifCond .eq 22, 3) := by decide +kernel
theorem dX0_choose_195 : decode cX0_choose 195 = .ok (.iload 11, 2) := by decide +kernel
theorem dX0_choose_197 : decode cX0_choose 197 = .ok (.iconst (-1), 1) := by decide +kernel
theorem dX0_choose_198 : decode cX0_choose 198 = .ok (.if_icmp .eq 16, 3) := by decide +kernel
theorem dX0_choose_201 : decode cX0_choose 201 = .ok (.aload_n 0, 1) := by decide +kernel
theorem dX0_choose_202 : decode cX0_choose 202 = .ok (.dup, 1) := by decide +kernel
theorem dX0_choose_203 : decode cX0_choose 203 = .ok (.getfield 98, 3) := by decide +kernel
theorem dX0_choose_206 : decode cX0_choose 206 = .ok (.iconst 1, 1) := by decide +kernel
theorem dX0_choose_207 : decode cX0_choose 207 = .ok (.iload 11, 2) := by decide +kernel
theorem dX0_choose_209 : decode cX0_choose 209 = .ok (.ishl, 1) := by decide +kernel
theorem dX0_choose_210 : decode cX0_choose 210 = .ok (.ior, 1) := by decide +kernel
theorem dX0_choose_211 : decode cX0_choose 211 = .ok (.putfield 98, 3) := by decide +kernel
theorem dX0_choose_214 : decode cX0_choose 214 = .ok (.iinc 10 1, 3) := by decide +kernel
theorem dX0_choose_217 : decode cX0_choose 217 = .ok (.goto (-61), 3) := by decide +kernel
theorem dX0_choose_220 : decode cX0_choose 220 = .ok (.iinc 8 1, 3) := by decide +kernel
theorem dX0_choose_223 : decode cX0_choose 223 = .ok (.goto (-177), 3) := by decide +kernel
theorem dX0_choose_226 : decode cX0_choose 226 = .ok (.return_, 1) := by decide +kernel
theorem dX0_askOn_0 : decode cX0_askOn 0 = .ok (.aload_n 1, 1) := by decide +kernel
theorem dX0_askOn_1 : decode cX0_askOn 1 = .ok (.getfield 101, 3) := by decide +kernel
theorem dX0_askOn_4 : decode cX0_askOn 4 = .ok (.ifnonnull 5, 3) := by decide +kernel
theorem dX0_askOn_7 : decode cX0_askOn 7 = .ok (.iconst (-1), 1) := by decide +kernel
theorem dX0_askOn_8 : decode cX0_askOn 8 = .ok (.ireturn, 1) := by decide +kernel
theorem dX0_askOn_9 : decode cX0_askOn 9 = .ok (.aload_n 0, 1) := by decide +kernel
theorem dX0_askOn_10 : decode cX0_askOn 10 = .ok (.aload_n 1, 1) := by decide +kernel
theorem dX0_askOn_11 : decode cX0_askOn 11 = .ok (.getfield 101, 3) := by decide +kernel
theorem dX0_askOn_14 : decode cX0_askOn 14 = .ok (.aload_n 1, 1) := by decide +kernel
theorem dX0_askOn_15 : decode cX0_askOn 15 = .ok (.getfield 107, 3) := by decide +kernel
theorem dX0_askOn_18 : decode cX0_askOn 18 = .ok (.aload_n 1, 1) := by decide +kernel
theorem dX0_askOn_19 : decode cX0_askOn 19 = .ok (.getfield 110, 3) := by decide +kernel
theorem dX0_askOn_22 : decode cX0_askOn 22 = .ok (.aload_n 1, 1) := by decide +kernel
theorem dX0_askOn_23 : decode cX0_askOn 23 = .ok (.getfield 113, 3) := by decide +kernel
theorem dX0_askOn_26 : decode cX0_askOn 26 = .ok (.aload_n 1, 1) := by decide +kernel
theorem dX0_askOn_27 : decode cX0_askOn 27 = .ok (.getfield 116, 3) := by decide +kernel
theorem dX0_askOn_30 : decode cX0_askOn 30 = .ok (.invokevirtual 119, 3) := by decide +kernel
theorem dX0_askOn_33 : decode cX0_askOn 33 = .ok (.aload_n 1, 1) := by decide +kernel
theorem dX0_askOn_34 : decode cX0_askOn 34 = .ok (.dup, 1) := by decide +kernel
theorem dX0_askOn_35 : decode cX0_askOn 35 = .ok (.getfield 123, 3) := by decide +kernel
theorem dX0_askOn_38 : decode cX0_askOn 38 = .ok (.aload_n 0, 1) := by decide +kernel
theorem dX0_askOn_39 : decode cX0_askOn 39 = .ok (.getfield 53, 3) := by decide +kernel
theorem dX0_askOn_42 : decode cX0_askOn 42 = .ok (.ior, 1) := by decide +kernel
theorem dX0_askOn_43 : decode cX0_askOn 43 = .ok (.putfield 123, 3) := by decide +kernel
theorem dX0_askOn_46 : decode cX0_askOn 46 = .ok (.aload_n 0, 1) := by decide +kernel
theorem dX0_askOn_47 : decode cX0_askOn 47 = .ok (.getfield 43, 3) := by decide +kernel
theorem dX0_askOn_50 : decode cX0_askOn 50 = .ok (.ifCond .ne 18, 3) := by decide +kernel
theorem dX0_askOn_53 : decode cX0_askOn 53 = .ok (.aload_n 1, 1) := by decide +kernel
theorem dX0_askOn_54 : decode cX0_askOn 54 = .ok (.iconst 1, 1) := by decide +kernel
theorem dX0_askOn_55 : decode cX0_askOn 55 = .ok (.putfield 124, 3) := by decide +kernel
theorem dX0_askOn_58 : decode cX0_askOn 58 = .ok (.aload_n 1, 1) := by decide +kernel
theorem dX0_askOn_59 : decode cX0_askOn 59 = .ok (.aload_n 0, 1) := by decide +kernel
theorem dX0_askOn_60 : decode cX0_askOn 60 = .ok (.getfield 47, 3) := by decide +kernel
theorem dX0_askOn_63 : decode cX0_askOn 63 = .ok (.putfield 127, 3) := by decide +kernel
theorem dX0_askOn_66 : decode cX0_askOn 66 = .ok (.iconst (-1), 1) := by decide +kernel
theorem dX0_askOn_67 : decode cX0_askOn 67 = .ok (.ireturn, 1) := by decide +kernel
theorem dX0_askOn_68 : decode cX0_askOn 68 = .ok (.aload_n 0, 1) := by decide +kernel
theorem dX0_askOn_69 : decode cX0_askOn 69 = .ok (.getfield 43, 3) := by decide +kernel
theorem dX0_askOn_72 : decode cX0_askOn 72 = .ok (.iconst 1, 1) := by decide +kernel
theorem dX0_askOn_73 : decode cX0_askOn 73 = .ok (.if_icmp .ne 10, 3) := by decide +kernel
theorem dX0_askOn_76 : decode cX0_askOn 76 = .ok (.aload_n 0, 1) := by decide +kernel
theorem dX0_askOn_77 : decode cX0_askOn 77 = .ok (.getfield 47, 3) := by decide +kernel
theorem dX0_askOn_80 : decode cX0_askOn 80 = .ok (.goto 8, 3) := by decide +kernel
theorem dX0_askOn_83 : decode cX0_askOn 83 = .ok (.aload_n 0, 1) := by decide +kernel
theorem dX0_askOn_84 : decode cX0_askOn 84 = .ok (.aload_n 1, 1) := by decide +kernel
theorem dX0_askOn_85 : decode cX0_askOn 85 = .ok (.invokevirtual 130, 3) := by decide +kernel
theorem dX0_askOn_88 : decode cX0_askOn 88 = .ok (.istore_n 2, 1) := by decide +kernel
theorem dX0_askOn_89 : decode cX0_askOn 89 = .ok (.iload_n 2, 1) := by decide +kernel
theorem dX0_askOn_90 : decode cX0_askOn 90 = .ok (.iconst (-1), 1) := by decide +kernel
theorem dX0_askOn_91 : decode cX0_askOn 91 = .ok (.if_icmp .ne 8, 3) := by decide +kernel
theorem dX0_askOn_94 : decode cX0_askOn 94 = .ok (.aload_n 1, 1) := by decide +kernel
theorem dX0_askOn_95 : decode cX0_askOn 95 = .ok (.iconst 2, 1) := by decide +kernel
theorem dX0_askOn_96 : decode cX0_askOn 96 = .ok (.putfield 124, 3) := by decide +kernel
theorem dX0_askOn_99 : decode cX0_askOn 99 = .ok (.iload_n 2, 1) := by decide +kernel
theorem dX0_askOn_100 : decode cX0_askOn 100 = .ok (.ireturn, 1) := by decide +kernel
theorem dX0_nearestNew_0 : decode cX0_nearestNew 0 = .ok (.iconst (-1), 1) := by decide +kernel
theorem dX0_nearestNew_1 : decode cX0_nearestNew 1 = .ok (.istore_n 2, 1) := by decide +kernel
theorem dX0_nearestNew_2 : decode cX0_nearestNew 2 = .ok (.bipush 10, 2) := by decide +kernel
theorem dX0_nearestNew_4 : decode cX0_nearestNew 4 = .ok (.istore_n 3, 1) := by decide +kernel
theorem dX0_nearestNew_5 : decode cX0_nearestNew 5 = .ok (.iconst 0, 1) := by decide +kernel
theorem dX0_nearestNew_6 : decode cX0_nearestNew 6 = .ok (.istore 4, 2) := by decide +kernel
theorem dX0_nearestNew_8 : decode cX0_nearestNew 8 = .ok (.iload 4, 2) := by decide +kernel
theorem dX0_nearestNew_10 : decode cX0_nearestNew 10 = .ok (.bipush 8, 2) := by decide +kernel
theorem dX0_nearestNew_12 : decode cX0_nearestNew 12 = .ok (.if_icmp .ge 58, 3) := by decide +kernel
theorem dX0_nearestNew_15 : decode cX0_nearestNew 15 = .ok (.aload_n 0, 1) := by decide +kernel
theorem dX0_nearestNew_16 : decode cX0_nearestNew 16 = .ok (.getfield 15, 3) := by decide +kernel
theorem dX0_nearestNew_19 : decode cX0_nearestNew 19 = .ok (.getfield 134, 3) := by decide +kernel
theorem dX0_nearestNew_22 : decode cX0_nearestNew 22 = .ok (.aload_n 1, 1) := by decide +kernel
theorem dX0_nearestNew_23 : decode cX0_nearestNew 23 = .ok (.getfield 116, 3) := by decide +kernel
theorem dX0_nearestNew_26 : decode cX0_nearestNew 26 = .ok (.bipush 8, 2) := by decide +kernel
theorem dX0_nearestNew_28 : decode cX0_nearestNew 28 = .ok (.imul, 1) := by decide +kernel
theorem dX0_nearestNew_29 : decode cX0_nearestNew 29 = .ok (.iload 4, 2) := by decide +kernel
theorem dX0_nearestNew_31 : decode cX0_nearestNew 31 = .ok (.iadd, 1) := by decide +kernel
theorem dX0_nearestNew_32 : decode cX0_nearestNew 32 = .ok (.iaload, 1) := by decide +kernel
theorem dX0_nearestNew_33 : decode cX0_nearestNew 33 = .ok (.istore 5, 2) := by decide +kernel
theorem dX0_nearestNew_35 : decode cX0_nearestNew 35 = .ok (.iload 5, 2) := by decide +kernel
theorem dX0_nearestNew_37 : decode cX0_nearestNew 37 = .ok (.ifCond .eq 27, 3) := by decide +kernel
theorem dX0_nearestNew_40 : decode cX0_nearestNew 40 = .ok (.iload 5, 2) := by decide +kernel
theorem dX0_nearestNew_42 : decode cX0_nearestNew 42 = .ok (.iload_n 3, 1) := by decide +kernel
theorem dX0_nearestNew_43 : decode cX0_nearestNew 43 = .ok (.if_icmp .ge 21, 3) := by decide +kernel
theorem dX0_nearestNew_46 : decode cX0_nearestNew 46 = .ok (.aload_n 1, 1) := by decide +kernel
theorem dX0_nearestNew_47 : decode cX0_nearestNew 47 = .ok (.getfield 137, 3) := by decide +kernel
theorem dX0_nearestNew_50 : decode cX0_nearestNew 50 = .ok (.iload 4, 2) := by decide +kernel
theorem dX0_nearestNew_52 : decode cX0_nearestNew 52 = .ok (.invokestatic 66, 3) := by decide +kernel
theorem dX0_nearestNew_55 : decode cX0_nearestNew 55 = .ok (.ifCond .ne 9, 3) := by decide +kernel
theorem dX0_nearestNew_58 : decode cX0_nearestNew 58 = .ok (.iload 4, 2) := by decide +kernel
theorem dX0_nearestNew_60 : decode cX0_nearestNew 60 = .ok (.istore_n 2, 1) := by decide +kernel
theorem dX0_nearestNew_61 : decode cX0_nearestNew 61 = .ok (.iload 5, 2) := by decide +kernel
theorem dX0_nearestNew_63 : decode cX0_nearestNew 63 = .ok (.istore_n 3, 1) := by decide +kernel
theorem dX0_nearestNew_64 : decode cX0_nearestNew 64 = .ok (.iinc 4 1, 3) := by decide +kernel
theorem dX0_nearestNew_67 : decode cX0_nearestNew 67 = .ok (.goto (-59), 3) := by decide +kernel
theorem dX0_nearestNew_70 : decode cX0_nearestNew 70 = .ok (.iload_n 2, 1) := by decide +kernel
theorem dX0_nearestNew_71 : decode cX0_nearestNew 71 = .ok (.ireturn, 1) := by decide +kernel
theorem dX0_comesInTime_0 : decode cX0_comesInTime 0 = .ok (.aload_n 1, 1) := by decide +kernel
theorem dX0_comesInTime_1 : decode cX0_comesInTime 1 = .ok (.getfield 113, 3) := by decide +kernel
theorem dX0_comesInTime_4 : decode cX0_comesInTime 4 = .ok (.aload_n 0, 1) := by decide +kernel
theorem dX0_comesInTime_5 : decode cX0_comesInTime 5 = .ok (.getfield 15, 3) := by decide +kernel
theorem dX0_comesInTime_8 : decode cX0_comesInTime 8 = .ok (.getfield 134, 3) := by decide +kernel
theorem dX0_comesInTime_11 : decode cX0_comesInTime 11 = .ok (.aload_n 1, 1) := by decide +kernel
theorem dX0_comesInTime_12 : decode cX0_comesInTime 12 = .ok (.getfield 116, 3) := by decide +kernel
theorem dX0_comesInTime_15 : decode cX0_comesInTime 15 = .ok (.bipush 8, 2) := by decide +kernel
theorem dX0_comesInTime_17 : decode cX0_comesInTime 17 = .ok (.imul, 1) := by decide +kernel
theorem dX0_comesInTime_18 : decode cX0_comesInTime 18 = .ok (.iload_n 2, 1) := by decide +kernel
theorem dX0_comesInTime_19 : decode cX0_comesInTime 19 = .ok (.iadd, 1) := by decide +kernel
theorem dX0_comesInTime_20 : decode cX0_comesInTime 20 = .ok (.iaload, 1) := by decide +kernel
theorem dX0_comesInTime_21 : decode cX0_comesInTime 21 = .ok (.iadd, 1) := by decide +kernel
theorem dX0_comesInTime_22 : decode cX0_comesInTime 22 = .ok (.sipush 999, 3) := by decide +kernel
theorem dX0_comesInTime_25 : decode cX0_comesInTime 25 = .ok (.if_icmp .gt 7, 3) := by decide +kernel
theorem dX0_comesInTime_28 : decode cX0_comesInTime 28 = .ok (.iconst 1, 1) := by decide +kernel
theorem dX0_comesInTime_29 : decode cX0_comesInTime 29 = .ok (.goto 4, 3) := by decide +kernel
theorem dX0_comesInTime_32 : decode cX0_comesInTime 32 = .ok (.iconst 0, 1) := by decide +kernel
theorem dX0_comesInTime_33 : decode cX0_comesInTime 33 = .ok (.ireturn, 1) := by decide +kernel
theorem dX0_goTo_0 : decode cX0_goTo 0 = .ok (.aload_n 1, 1) := by decide +kernel
theorem dX0_goTo_1 : decode cX0_goTo 1 = .ok (.dup, 1) := by decide +kernel
theorem dX0_goTo_2 : decode cX0_goTo 2 = .ok (.getfield 113, 3) := by decide +kernel
theorem dX0_goTo_5 : decode cX0_goTo 5 = .ok (.aload_n 0, 1) := by decide +kernel
theorem dX0_goTo_6 : decode cX0_goTo 6 = .ok (.getfield 15, 3) := by decide +kernel
theorem dX0_goTo_9 : decode cX0_goTo 9 = .ok (.getfield 134, 3) := by decide +kernel
theorem dX0_goTo_12 : decode cX0_goTo 12 = .ok (.aload_n 1, 1) := by decide +kernel
theorem dX0_goTo_13 : decode cX0_goTo 13 = .ok (.getfield 116, 3) := by decide +kernel
theorem dX0_goTo_16 : decode cX0_goTo 16 = .ok (.bipush 8, 2) := by decide +kernel
theorem dX0_goTo_18 : decode cX0_goTo 18 = .ok (.imul, 1) := by decide +kernel
theorem dX0_goTo_19 : decode cX0_goTo 19 = .ok (.iload_n 2, 1) := by decide +kernel
theorem dX0_goTo_20 : decode cX0_goTo 20 = .ok (.iadd, 1) := by decide +kernel
theorem dX0_goTo_21 : decode cX0_goTo 21 = .ok (.iaload, 1) := by decide +kernel
theorem dX0_goTo_22 : decode cX0_goTo 22 = .ok (.iadd, 1) := by decide +kernel
theorem dX0_goTo_23 : decode cX0_goTo 23 = .ok (.putfield 113, 3) := by decide +kernel
theorem dX0_goTo_26 : decode cX0_goTo 26 = .ok (.aload_n 1, 1) := by decide +kernel
theorem dX0_goTo_27 : decode cX0_goTo 27 = .ok (.iload_n 2, 1) := by decide +kernel
theorem dX0_goTo_28 : decode cX0_goTo 28 = .ok (.putfield 116, 3) := by decide +kernel
theorem dX0_goTo_31 : decode cX0_goTo 31 = .ok (.aload_n 1, 1) := by decide +kernel
theorem dX0_goTo_32 : decode cX0_goTo 32 = .ok (.dup, 1) := by decide +kernel
theorem dX0_goTo_33 : decode cX0_goTo 33 = .ok (.getfield 137, 3) := by decide +kernel
theorem dX0_goTo_36 : decode cX0_goTo 36 = .ok (.iconst 1, 1) := by decide +kernel
theorem dX0_goTo_37 : decode cX0_goTo 37 = .ok (.iload_n 2, 1) := by decide +kernel
theorem dX0_goTo_38 : decode cX0_goTo 38 = .ok (.ishl, 1) := by decide +kernel
theorem dX0_goTo_39 : decode cX0_goTo 39 = .ok (.ior, 1) := by decide +kernel
theorem dX0_goTo_40 : decode cX0_goTo 40 = .ok (.putfield 137, 3) := by decide +kernel
theorem dX0_goTo_43 : decode cX0_goTo 43 = .ok (.aload_n 1, 1) := by decide +kernel
theorem dX0_goTo_44 : decode cX0_goTo 44 = .ok (.dup, 1) := by decide +kernel
theorem dX0_goTo_45 : decode cX0_goTo 45 = .ok (.getfield 140, 3) := by decide +kernel
theorem dX0_goTo_48 : decode cX0_goTo 48 = .ok (.iconst 1, 1) := by decide +kernel
theorem dX0_goTo_49 : decode cX0_goTo 49 = .ok (.iadd, 1) := by decide +kernel
theorem dX0_goTo_50 : decode cX0_goTo 50 = .ok (.putfield 140, 3) := by decide +kernel
theorem dX0_goTo_53 : decode cX0_goTo 53 = .ok (.return_, 1) := by decide +kernel
theorem dX0_oneDay_0 : decode cX0_oneDay 0 = .ok (.iconst 0, 1) := by decide +kernel
theorem dX0_oneDay_1 : decode cX0_oneDay 1 = .ok (.istore_n 1, 1) := by decide +kernel
theorem dX0_oneDay_2 : decode cX0_oneDay 2 = .ok (.iload_n 1, 1) := by decide +kernel
theorem dX0_oneDay_3 : decode cX0_oneDay 3 = .ok (.aload_n 0, 1) := by decide +kernel
theorem dX0_oneDay_4 : decode cX0_oneDay 4 = .ok (.getfield 15, 3) := by decide +kernel
theorem dX0_oneDay_7 : decode cX0_oneDay 7 = .ok (.getfield 143, 3) := by decide +kernel
theorem dX0_oneDay_10 : decode cX0_oneDay 10 = .ok (.if_icmp .ge 57, 3) := by decide +kernel
theorem dX0_oneDay_13 : decode cX0_oneDay 13 = .ok (.aload_n 0, 1) := by decide +kernel
theorem dX0_oneDay_14 : decode cX0_oneDay 14 = .ok (.getfield 15, 3) := by decide +kernel
theorem dX0_oneDay_17 : decode cX0_oneDay 17 = .ok (.getfield 146, 3) := by decide +kernel
theorem dX0_oneDay_20 : decode cX0_oneDay 20 = .ok (.iload_n 1, 1) := by decide +kernel
theorem dX0_oneDay_21 : decode cX0_oneDay 21 = .ok (.aaload, 1) := by decide +kernel
theorem dX0_oneDay_22 : decode cX0_oneDay 22 = .ok (.astore_n 2, 1) := by decide +kernel
theorem dX0_oneDay_23 : decode cX0_oneDay 23 = .ok (.aload_n 2, 1) := by decide +kernel
theorem dX0_oneDay_24 : decode cX0_oneDay 24 = .ok (.getfield 124, 3) := by decide +kernel
theorem dX0_oneDay_27 : decode cX0_oneDay 27 = .ok (.ifCond .ne 34, 3) := by decide +kernel
theorem dX0_oneDay_30 : decode cX0_oneDay 30 = .ok (.aload_n 2, 1) := by decide +kernel
theorem dX0_oneDay_31 : decode cX0_oneDay 31 = .ok (.getfield 113, 3) := by decide +kernel
theorem dX0_oneDay_34 : decode cX0_oneDay 34 = .ok (.aload_n 0, 1) := by decide +kernel
theorem dX0_oneDay_35 : decode cX0_oneDay 35 = .ok (.getfield 15, 3) := by decide +kernel
theorem dX0_oneDay_38 : decode cX0_oneDay 38 = .ok (.getfield 150, 3) := by decide +kernel
theorem dX0_oneDay_41 : decode cX0_oneDay 41 = .ok (.if_icmp .ne 20, 3) := by decide +kernel
theorem dX0_oneDay_44 : decode cX0_oneDay 44 = .ok (.aload_n 0, 1) := by decide +kernel
theorem dX0_oneDay_45 : decode cX0_oneDay 45 = .ok (.aload_n 2, 1) := by decide +kernel
theorem dX0_oneDay_46 : decode cX0_oneDay 46 = .ok (.invokevirtual 153, 3) := by decide +kernel
theorem dX0_oneDay_49 : decode cX0_oneDay 49 = .ok (.istore_n 3, 1) := by decide +kernel
theorem dX0_oneDay_50 : decode cX0_oneDay 50 = .ok (.iload_n 3, 1) := by decide +kernel
theorem dX0_oneDay_51 : decode cX0_oneDay 51 = .ok (.iconst (-1), 1) := by decide +kernel
theorem dX0_oneDay_52 : decode cX0_oneDay 52 = .ok (.if_icmp .eq 9, 3) := by decide +kernel
theorem dX0_oneDay_55 : decode cX0_oneDay 55 = .ok (.aload_n 0, 1) := by decide +kernel
theorem dX0_oneDay_56 : decode cX0_oneDay 56 = .ok (.aload_n 2, 1) := by decide +kernel
theorem dX0_oneDay_57 : decode cX0_oneDay 57 = .ok (.iload_n 3, 1) := by decide +kernel
theorem dX0_oneDay_58 : decode cX0_oneDay 58 = .ok (.invokevirtual 156, 3) := by decide +kernel
theorem dX0_oneDay_61 : decode cX0_oneDay 61 = .ok (.iinc 1 1, 3) := by decide +kernel
theorem dX0_oneDay_64 : decode cX0_oneDay 64 = .ok (.goto (-62), 3) := by decide +kernel
theorem dX0_oneDay_67 : decode cX0_oneDay 67 = .ok (.aload_n 0, 1) := by decide +kernel
theorem dX0_oneDay_68 : decode cX0_oneDay 68 = .ok (.getfield 15, 3) := by decide +kernel
theorem dX0_oneDay_71 : decode cX0_oneDay 71 = .ok (.dup, 1) := by decide +kernel
theorem dX0_oneDay_72 : decode cX0_oneDay 72 = .ok (.getfield 150, 3) := by decide +kernel
theorem dX0_oneDay_75 : decode cX0_oneDay 75 = .ok (.iconst 1, 1) := by decide +kernel
theorem dX0_oneDay_76 : decode cX0_oneDay 76 = .ok (.iadd, 1) := by decide +kernel
theorem dX0_oneDay_77 : decode cX0_oneDay 77 = .ok (.putfield 150, 3) := by decide +kernel
theorem dX0_oneDay_80 : decode cX0_oneDay 80 = .ok (.return_, 1) := by decide +kernel
theorem dX0_goToEnd_0 : decode cX0_goToEnd 0 = .ok (.iconst 0, 1) := by decide +kernel
theorem dX0_goToEnd_1 : decode cX0_goToEnd 1 = .ok (.istore_n 2, 1) := by decide +kernel
theorem dX0_goToEnd_2 : decode cX0_goToEnd 2 = .ok (.iload_n 2, 1) := by decide +kernel
theorem dX0_goToEnd_3 : decode cX0_goToEnd 3 = .ok (.bipush 100, 2) := by decide +kernel
theorem dX0_goToEnd_5 : decode cX0_goToEnd 5 = .ok (.if_icmp .ge 36, 3) := by decide +kernel
theorem dX0_goToEnd_8 : decode cX0_goToEnd 8 = .ok (.aload_n 0, 1) := by decide +kernel
theorem dX0_goToEnd_9 : decode cX0_goToEnd 9 = .ok (.aload_n 1, 1) := by decide +kernel
theorem dX0_goToEnd_10 : decode cX0_goToEnd 10 = .ok (.invokevirtual 153, 3) := by decide +kernel
theorem dX0_goToEnd_13 : decode cX0_goToEnd 13 = .ok (.istore_n 3, 1) := by decide +kernel
theorem dX0_goToEnd_14 : decode cX0_goToEnd 14 = .ok (.iload_n 3, 1) := by decide +kernel
theorem dX0_goToEnd_15 : decode cX0_goToEnd 15 = .ok (.iconst (-1), 1) := by decide +kernel
theorem dX0_goToEnd_16 : decode cX0_goToEnd 16 = .ok (.if_icmp .eq 12, 3) := by decide +kernel
theorem dX0_goToEnd_19 : decode cX0_goToEnd 19 = .ok (.aload_n 0, 1) := by decide +kernel
theorem dX0_goToEnd_20 : decode cX0_goToEnd 20 = .ok (.aload_n 1, 1) := by decide +kernel
theorem dX0_goToEnd_21 : decode cX0_goToEnd 21 = .ok (.iload_n 3, 1) := by decide +kernel
theorem dX0_goToEnd_22 : decode cX0_goToEnd 22 = .ok (.invokevirtual 160, 3) := by decide +kernel
theorem dX0_goToEnd_25 : decode cX0_goToEnd 25 = .ok (.ifCond .ne 4, 3) := by decide +kernel
theorem dX0_goToEnd_28 : decode cX0_goToEnd 28 = .ok (.return_, 1) := by decide +kernel
theorem dX0_goToEnd_29 : decode cX0_goToEnd 29 = .ok (.aload_n 0, 1) := by decide +kernel
theorem dX0_goToEnd_30 : decode cX0_goToEnd 30 = .ok (.aload_n 1, 1) := by decide +kernel
theorem dX0_goToEnd_31 : decode cX0_goToEnd 31 = .ok (.iload_n 3, 1) := by decide +kernel
theorem dX0_goToEnd_32 : decode cX0_goToEnd 32 = .ok (.invokevirtual 156, 3) := by decide +kernel
theorem dX0_goToEnd_35 : decode cX0_goToEnd 35 = .ok (.iinc 2 1, 3) := by decide +kernel
theorem dX0_goToEnd_38 : decode cX0_goToEnd 38 = .ok (.goto (-36), 3) := by decide +kernel
theorem dX0_goToEnd_41 : decode cX0_goToEnd 41 = .ok (.return_, 1) := by decide +kernel
theorem dX0_findNeeds_0 : decode cX0_findNeeds 0 = .ok (.aload_n 0, 1) := by decide +kernel
theorem dX0_findNeeds_1 : decode cX0_findNeeds 1 = .ok (.bipush (-2), 2) := by decide +kernel
theorem dX0_findNeeds_3 : decode cX0_findNeeds 3 = .ok (.putfield 164, 3) := by decide +kernel
theorem dX0_findNeeds_6 : decode cX0_findNeeds 6 = .ok (.aload_n 0, 1) := by decide +kernel
theorem dX0_findNeeds_7 : decode cX0_findNeeds 7 = .ok (.bipush (-2), 2) := by decide +kernel
theorem dX0_findNeeds_9 : decode cX0_findNeeds 9 = .ok (.putfield 167, 3) := by decide +kernel
theorem dX0_findNeeds_12 : decode cX0_findNeeds 12 = .ok (.aload_n 0, 1) := by decide +kernel
theorem dX0_findNeeds_13 : decode cX0_findNeeds 13 = .ok (.aload_n 1, 1) := by decide +kernel
theorem dX0_findNeeds_14 : decode cX0_findNeeds 14 = .ok (.iconst (-1), 1) := by decide +kernel
theorem dX0_findNeeds_15 : decode cX0_findNeeds 15 = .ok (.iconst (-1), 1) := by decide +kernel
theorem dX0_findNeeds_16 : decode cX0_findNeeds 16 = .ok (.invokevirtual 170, 3) := by decide +kernel
theorem dX0_findNeeds_19 : decode cX0_findNeeds 19 = .ok (.ifCond .eq 5, 3) := by decide +kernel
theorem dX0_findNeeds_22 : decode cX0_findNeeds 22 = .ok (.iconst 0, 1) := by decide +kernel
theorem dX0_findNeeds_23 : decode cX0_findNeeds 23 = .ok (.ireturn, 1) := by decide +kernel
theorem dX0_findNeeds_24 : decode cX0_findNeeds 24 = .ok (.sipush 144, 3) := by decide +kernel
theorem dX0_findNeeds_27 : decode cX0_findNeeds 27 = .ok (.istore_n 2, 1) := by decide +kernel
theorem dX0_findNeeds_28 : decode cX0_findNeeds 28 = .ok (.iconst 0, 1) := by decide +kernel
theorem dX0_findNeeds_29 : decode cX0_findNeeds 29 = .ok (.istore_n 3, 1) := by decide +kernel
theorem dX0_findNeeds_30 : decode cX0_findNeeds 30 = .ok (.iload_n 3, 1) := by decide +kernel
theorem dX0_findNeeds_31 : decode cX0_findNeeds 31 = .ok (.iload_n 2, 1) := by decide +kernel
theorem dX0_findNeeds_32 : decode cX0_findNeeds 32 = .ok (.if_icmp .ge 51, 3) := by decide +kernel
theorem dX0_findNeeds_35 : decode cX0_findNeeds 35 = .ok (.aload_n 0, 1) := by decide +kernel
theorem dX0_findNeeds_36 : decode cX0_findNeeds 36 = .ok (.getfield 9, 3) := by decide +kernel
theorem dX0_findNeeds_39 : decode cX0_findNeeds 39 = .ok (.iload_n 3, 1) := by decide +kernel
theorem dX0_findNeeds_40 : decode cX0_findNeeds 40 = .ok (.iconst 0, 1) := by decide +kernel
theorem dX0_findNeeds_41 : decode cX0_findNeeds 41 = .ok (.iastore, 1) := by decide +kernel
theorem dX0_findNeeds_42 : decode cX0_findNeeds 42 = .ok (.aload_n 0, 1) := by decide +kernel
theorem dX0_findNeeds_43 : decode cX0_findNeeds 43 = .ok (.iload_n 3, 1) := by decide +kernel
theorem dX0_findNeeds_44 : decode cX0_findNeeds 44 = .ok (.invokevirtual 174, 3) := by decide +kernel
theorem dX0_findNeeds_47 : decode cX0_findNeeds 47 = .ok (.ifCond .eq 30, 3) := by decide +kernel
theorem dX0_findNeeds_50 : decode cX0_findNeeds 50 = .ok (.aload_n 0, 1) := by decide +kernel
theorem dX0_findNeeds_51 : decode cX0_findNeeds 51 = .ok (.aload_n 1, 1) := by decide +kernel
theorem dX0_findNeeds_52 : decode cX0_findNeeds 52 = .ok (.iload_n 3, 1) := by decide +kernel
theorem dX0_findNeeds_53 : decode cX0_findNeeds 53 = .ok (.iconst (-1), 1) := by decide +kernel
theorem dX0_findNeeds_54 : decode cX0_findNeeds 54 = .ok (.invokevirtual 170, 3) := by decide +kernel
theorem dX0_findNeeds_57 : decode cX0_findNeeds 57 = .ok (.ifCond .eq 10, 3) := by decide +kernel
theorem dX0_findNeeds_60 : decode cX0_findNeeds 60 = .ok (.aload_n 0, 1) := by decide +kernel
theorem dX0_findNeeds_61 : decode cX0_findNeeds 61 = .ok (.iload_n 3, 1) := by decide +kernel
theorem dX0_findNeeds_62 : decode cX0_findNeeds 62 = .ok (.putfield 164, 3) := by decide +kernel
theorem dX0_findNeeds_65 : decode cX0_findNeeds 65 = .ok (.iconst 1, 1) := by decide +kernel
theorem dX0_findNeeds_66 : decode cX0_findNeeds 66 = .ok (.ireturn, 1) := by decide +kernel
theorem dX0_findNeeds_67 : decode cX0_findNeeds 67 = .ok (.aload_n 0, 1) := by decide +kernel
theorem dX0_findNeeds_68 : decode cX0_findNeeds 68 = .ok (.getfield 9, 3) := by decide +kernel
theorem dX0_findNeeds_71 : decode cX0_findNeeds 71 = .ok (.iload_n 3, 1) := by decide +kernel
theorem dX0_findNeeds_72 : decode cX0_findNeeds 72 = .ok (.aload_n 1, 1) := by decide +kernel
theorem dX0_findNeeds_73 : decode cX0_findNeeds 73 = .ok (.getfield 123, 3) := by decide +kernel
theorem dX0_findNeeds_76 : decode cX0_findNeeds 76 = .ok (.iastore, 1) := by decide +kernel
theorem dX0_findNeeds_77 : decode cX0_findNeeds 77 = .ok (.iinc 3 1, 3) := by decide +kernel
theorem dX0_findNeeds_80 : decode cX0_findNeeds 80 = .ok (.goto (-50), 3) := by decide +kernel
theorem dX0_findNeeds_83 : decode cX0_findNeeds 83 = .ok (.iconst 0, 1) := by decide +kernel
theorem dX0_findNeeds_84 : decode cX0_findNeeds 84 = .ok (.istore_n 3, 1) := by decide +kernel
theorem dX0_findNeeds_85 : decode cX0_findNeeds 85 = .ok (.iload_n 3, 1) := by decide +kernel
theorem dX0_findNeeds_86 : decode cX0_findNeeds 86 = .ok (.iload_n 2, 1) := by decide +kernel
theorem dX0_findNeeds_87 : decode cX0_findNeeds 87 = .ok (.if_icmp .ge 96, 3) := by decide +kernel
theorem dX0_findNeeds_90 : decode cX0_findNeeds 90 = .ok (.iload_n 3, 1) := by decide +kernel
theorem dX0_findNeeds_91 : decode cX0_findNeeds 91 = .ok (.iconst 1, 1) := by decide +kernel
theorem dX0_findNeeds_92 : decode cX0_findNeeds 92 = .ok (.iadd, 1) := by decide +kernel
theorem dX0_findNeeds_93 : decode cX0_findNeeds 93 = .ok (.istore 4, 2) := by decide +kernel
theorem dX0_findNeeds_95 : decode cX0_findNeeds 95 = .ok (.iload 4, 2) := by decide +kernel
theorem dX0_findNeeds_97 : decode cX0_findNeeds 97 = .ok (.iload_n 2, 1) := by decide +kernel
theorem dX0_findNeeds_98 : decode cX0_findNeeds 98 = .ok (.if_icmp .ge 79, 3) := by decide +kernel
theorem dX0_findNeeds_101 : decode cX0_findNeeds 101 = .ok (.aload_n 0, 1) := by decide +kernel
theorem dX0_findNeeds_102 : decode cX0_findNeeds 102 = .ok (.getfield 9, 3) := by decide +kernel
theorem dX0_findNeeds_105 : decode cX0_findNeeds 105 = .ok (.iload_n 3, 1) := by decide +kernel
theorem dX0_findNeeds_106 : decode cX0_findNeeds 106 = .ok (.iaload, 1) := by decide +kernel
theorem dX0_findNeeds_107 : decode cX0_findNeeds 107 = .ok (.iload 4, 2) := by decide +kernel
theorem dX0_findNeeds_109 : decode cX0_findNeeds 109 = .ok (.bipush 12, 2) := by decide +kernel
theorem dX0_findNeeds_111 : decode cX0_findNeeds 111 = .ok (.idiv, 1) := by decide +kernel
theorem dX0_findNeeds_112 : decode cX0_findNeeds 112 = .ok (.invokestatic 66, 3) := by decide +kernel
theorem dX0_findNeeds_115 : decode cX0_findNeeds 115 = .ok (.ifCond .eq 24, 3) := by decide +kernel
theorem dX0_findNeeds_118 : decode cX0_findNeeds 118 = .ok (.aload_n 0, 1) := by decide +kernel
theorem dX0_findNeeds_119 : decode cX0_findNeeds 119 = .ok (.getfield 9, 3) := by decide +kernel
theorem dX0_findNeeds_122 : decode cX0_findNeeds 122 = .ok (.iload 4, 2) := by decide +kernel
theorem dX0_findNeeds_124 : decode cX0_findNeeds 124 = .ok (.iaload, 1) := by decide +kernel
theorem dX0_findNeeds_125 : decode cX0_findNeeds 125 = .ok (.iload_n 3, 1) := by decide +kernel
theorem dX0_findNeeds_126 : decode cX0_findNeeds 126 = .ok (.bipush 12, 2) := by decide +kernel
theorem dX0_findNeeds_128 : decode cX0_findNeeds 128 = .ok (.idiv, 1) := by decide +kernel
theorem dX0_findNeeds_129 : decode cX0_findNeeds 129 = .ok (.invokestatic 66, 3) := by decide +kernel
theorem dX0_findNeeds_132 : decode cX0_findNeeds 132 = .ok (.ifCond .eq 7, 3) := by decide +kernel
theorem dX0_findNeeds_135 : decode cX0_findNeeds 135 = .ok (.iconst 1, 1) := by decide +kernel
theorem dX0_findNeeds_136 : decode cX0_findNeeds 136 = .ok (.goto 4, 3) := by decide +kernel
theorem dX0_findNeeds_139 : decode cX0_findNeeds 139 = .ok (.iconst 0, 1) := by decide +kernel
theorem dX0_findNeeds_140 : decode cX0_findNeeds 140 = .ok (.istore 5, 2) := by decide +kernel
theorem dX0_findNeeds_142 : decode cX0_findNeeds 142 = .ok (.iload 5, 2) := by decide +kernel
theorem dX0_findNeeds_144 : decode cX0_findNeeds 144 = .ok (.ifCond .eq 27, 3) := by decide +kernel
theorem dX0_findNeeds_147 : decode cX0_findNeeds 147 = .ok (.aload_n 0, 1) := by decide +kernel
theorem dX0_findNeeds_148 : decode cX0_findNeeds 148 = .ok (.aload_n 1, 1) := by decide +kernel
theorem dX0_findNeeds_149 : decode cX0_findNeeds 149 = .ok (.iload_n 3, 1) := by decide +kernel
theorem dX0_findNeeds_150 : decode cX0_findNeeds 150 = .ok (.iload 4, 2) := by decide +kernel
theorem dX0_findNeeds_152 : decode cX0_findNeeds 152 = .ok (.invokevirtual 170, 3) := by decide +kernel
theorem dX0_findNeeds_155 : decode cX0_findNeeds 155 = .ok (.ifCond .eq 16, 3) := by decide +kernel
theorem dX0_findNeeds_158 : decode cX0_findNeeds 158 = .ok (.aload_n 0, 1) := by decide +kernel
theorem dX0_findNeeds_159 : decode cX0_findNeeds 159 = .ok (.iload_n 3, 1) := by decide +kernel
theorem dX0_findNeeds_160 : decode cX0_findNeeds 160 = .ok (.putfield 164, 3) := by decide +kernel
theorem dX0_findNeeds_163 : decode cX0_findNeeds 163 = .ok (.aload_n 0, 1) := by decide +kernel
theorem dX0_findNeeds_164 : decode cX0_findNeeds 164 = .ok (.iload 4, 2) := by decide +kernel
theorem dX0_findNeeds_166 : decode cX0_findNeeds 166 = .ok (.putfield 167, 3) := by decide +kernel
theorem dX0_findNeeds_169 : decode cX0_findNeeds 169 = .ok (.iconst 2, 1) := by decide +kernel
theorem dX0_findNeeds_170 : decode cX0_findNeeds 170 = .ok (.ireturn, 1) := by decide +kernel
theorem dX0_findNeeds_171 : decode cX0_findNeeds 171 = .ok (.iinc 4 1, 3) := by decide +kernel
theorem dX0_findNeeds_174 : decode cX0_findNeeds 174 = .ok (.goto (-79), 3) := by decide +kernel
theorem dX0_findNeeds_177 : decode cX0_findNeeds 177 = .ok (.iinc 3 1, 3) := by decide +kernel
theorem dX0_findNeeds_180 : decode cX0_findNeeds 180 = .ok (.goto (-95), 3) := by decide +kernel
theorem dX0_findNeeds_183 : decode cX0_findNeeds 183 = .ok (.bipush (-2), 2) := by decide +kernel
theorem dX0_findNeeds_185 : decode cX0_findNeeds 185 = .ok (.ireturn, 1) := by decide +kernel
theorem dX0_isNotKnown_0 : decode cX0_isNotKnown 0 = .ok (.iload_n 1, 1) := by decide +kernel
theorem dX0_isNotKnown_1 : decode cX0_isNotKnown 1 = .ok (.bipush 12, 2) := by decide +kernel
theorem dX0_isNotKnown_3 : decode cX0_isNotKnown 3 = .ok (.idiv, 1) := by decide +kernel
theorem dX0_isNotKnown_4 : decode cX0_isNotKnown 4 = .ok (.istore_n 2, 1) := by decide +kernel
theorem dX0_isNotKnown_5 : decode cX0_isNotKnown 5 = .ok (.iload_n 1, 1) := by decide +kernel
theorem dX0_isNotKnown_6 : decode cX0_isNotKnown 6 = .ok (.bipush 12, 2) := by decide +kernel
theorem dX0_isNotKnown_8 : decode cX0_isNotKnown 8 = .ok (.irem, 1) := by decide +kernel
theorem dX0_isNotKnown_9 : decode cX0_isNotKnown 9 = .ok (.istore_n 3, 1) := by decide +kernel
theorem dX0_isNotKnown_10 : decode cX0_isNotKnown 10 = .ok (.iload_n 2, 1) := by decide +kernel
theorem dX0_isNotKnown_11 : decode cX0_isNotKnown 11 = .ok (.aload_n 0, 1) := by decide +kernel
theorem dX0_isNotKnown_12 : decode cX0_isNotKnown 12 = .ok (.getfield 15, 3) := by decide +kernel
theorem dX0_isNotKnown_15 : decode cX0_isNotKnown 15 = .ok (.getfield 56, 3) := by decide +kernel
theorem dX0_isNotKnown_18 : decode cX0_isNotKnown 18 = .ok (.if_icmp .ge 23, 3) := by decide +kernel
theorem dX0_isNotKnown_21 : decode cX0_isNotKnown 21 = .ok (.iload_n 3, 1) := by decide +kernel
theorem dX0_isNotKnown_22 : decode cX0_isNotKnown 22 = .ok (.aload_n 0, 1) := by decide +kernel
theorem dX0_isNotKnown_23 : decode cX0_isNotKnown 23 = .ok (.getfield 15, 3) := by decide +kernel
theorem dX0_isNotKnown_26 : decode cX0_isNotKnown 26 = .ok (.getfield 56, 3) := by decide +kernel
theorem dX0_isNotKnown_29 : decode cX0_isNotKnown 29 = .ok (.if_icmp .ge 12, 3) := by decide +kernel
theorem dX0_isNotKnown_32 : decode cX0_isNotKnown 32 = .ok (.iload_n 2, 1) := by decide +kernel
theorem dX0_isNotKnown_33 : decode cX0_isNotKnown 33 = .ok (.iload_n 3, 1) := by decide +kernel
theorem dX0_isNotKnown_34 : decode cX0_isNotKnown 34 = .ok (.if_icmp .eq 7, 3) := by decide +kernel
theorem dX0_isNotKnown_37 : decode cX0_isNotKnown 37 = .ok (.iconst 1, 1) := by decide +kernel
theorem dX0_isNotKnown_38 : decode cX0_isNotKnown 38 = .ok (.goto 4, 3) := by decide +kernel
theorem dX0_isNotKnown_41 : decode cX0_isNotKnown 41 = .ok (.iconst 0, 1) := by decide +kernel
theorem dX0_isNotKnown_42 : decode cX0_isNotKnown 42 = .ok (.istore 4, 2) := by decide +kernel
theorem dX0_isNotKnown_44 : decode cX0_isNotKnown 44 = .ok (.iload 4, 2) := by decide +kernel
theorem dX0_isNotKnown_46 : decode cX0_isNotKnown 46 = .ok (.ifCond .eq 23, 3) := by decide +kernel
theorem dX0_isNotKnown_49 : decode cX0_isNotKnown 49 = .ok (.aload_n 0, 1) := by decide +kernel
theorem dX0_isNotKnown_50 : decode cX0_isNotKnown 50 = .ok (.getfield 15, 3) := by decide +kernel
theorem dX0_isNotKnown_53 : decode cX0_isNotKnown 53 = .ok (.getfield 70, 3) := by decide +kernel
theorem dX0_isNotKnown_56 : decode cX0_isNotKnown 56 = .ok (.iload_n 2, 1) := by decide +kernel
theorem dX0_isNotKnown_57 : decode cX0_isNotKnown 57 = .ok (.iaload, 1) := by decide +kernel
theorem dX0_isNotKnown_58 : decode cX0_isNotKnown 58 = .ok (.iload_n 3, 1) := by decide +kernel
theorem dX0_isNotKnown_59 : decode cX0_isNotKnown 59 = .ok (.invokestatic 66, 3) := by decide +kernel
theorem dX0_isNotKnown_62 : decode cX0_isNotKnown 62 = .ok (.ifCond .ne 7, 3) := by decide +kernel
theorem dX0_isNotKnown_65 : decode cX0_isNotKnown 65 = .ok (.iconst 1, 1) := by decide +kernel
theorem dX0_isNotKnown_66 : decode cX0_isNotKnown 66 = .ok (.goto 4, 3) := by decide +kernel
theorem dX0_isNotKnown_69 : decode cX0_isNotKnown 69 = .ok (.iconst 0, 1) := by decide +kernel
theorem dX0_isNotKnown_70 : decode cX0_isNotKnown 70 = .ok (.ireturn, 1) := by decide +kernel
theorem dX0_endsRight_0 : decode cX0_endsRight 0 = .ok (.aload_n 0, 1) := by decide +kernel
theorem dX0_endsRight_1 : decode cX0_endsRight 1 = .ok (.iload_n 2, 1) := by decide +kernel
theorem dX0_endsRight_2 : decode cX0_endsRight 2 = .ok (.invokevirtual 178, 3) := by decide +kernel
theorem dX0_endsRight_5 : decode cX0_endsRight 5 = .ok (.aload_n 0, 1) := by decide +kernel
theorem dX0_endsRight_6 : decode cX0_endsRight 6 = .ok (.iload_n 3, 1) := by decide +kernel
theorem dX0_endsRight_7 : decode cX0_endsRight 7 = .ok (.invokevirtual 178, 3) := by decide +kernel
theorem dX0_endsRight_10 : decode cX0_endsRight 10 = .ok (.aload_n 1, 1) := by decide +kernel
theorem dX0_endsRight_11 : decode cX0_endsRight 11 = .ok (.invokevirtual 182, 3) := by decide +kernel
theorem dX0_endsRight_14 : decode cX0_endsRight 14 = .ok (.aload_n 0, 1) := by decide +kernel
theorem dX0_endsRight_15 : decode cX0_endsRight 15 = .ok (.aload_n 1, 1) := by decide +kernel
theorem dX0_endsRight_16 : decode cX0_endsRight 16 = .ok (.invokevirtual 185, 3) := by decide +kernel
theorem dX0_endsRight_19 : decode cX0_endsRight 19 = .ok (.aload_n 0, 1) := by decide +kernel
theorem dX0_endsRight_20 : decode cX0_endsRight 20 = .ok (.iload_n 2, 1) := by decide +kernel
theorem dX0_endsRight_21 : decode cX0_endsRight 21 = .ok (.invokevirtual 178, 3) := by decide +kernel
theorem dX0_endsRight_24 : decode cX0_endsRight 24 = .ok (.aload_n 0, 1) := by decide +kernel
theorem dX0_endsRight_25 : decode cX0_endsRight 25 = .ok (.iload_n 3, 1) := by decide +kernel
theorem dX0_endsRight_26 : decode cX0_endsRight 26 = .ok (.invokevirtual 178, 3) := by decide +kernel
theorem dX0_endsRight_29 : decode cX0_endsRight 29 = .ok (.aload_n 1, 1) := by decide +kernel
theorem dX0_endsRight_30 : decode cX0_endsRight 30 = .ok (.invokevirtual 189, 3) := by decide +kernel
theorem dX0_endsRight_33 : decode cX0_endsRight 33 = .ok (.ireturn, 1) := by decide +kernel
theorem dX0_turnKnown_0 : decode cX0_turnKnown 0 = .ok (.iload_n 1, 1) := by decide +kernel
theorem dX0_turnKnown_1 : decode cX0_turnKnown 1 = .ok (.ifCond .lt 31, 3) := by decide +kernel
theorem dX0_turnKnown_4 : decode cX0_turnKnown 4 = .ok (.iload_n 1, 1) := by decide +kernel
theorem dX0_turnKnown_5 : decode cX0_turnKnown 5 = .ok (.sipush 144, 3) := by decide +kernel
theorem dX0_turnKnown_8 : decode cX0_turnKnown 8 = .ok (.if_icmp .ge 24, 3) := by decide +kernel
theorem dX0_turnKnown_11 : decode cX0_turnKnown 11 = .ok (.aload_n 0, 1) := by decide +kernel
theorem dX0_turnKnown_12 : decode cX0_turnKnown 12 = .ok (.getfield 15, 3) := by decide +kernel
theorem dX0_turnKnown_15 : decode cX0_turnKnown 15 = .ok (.getfield 70, 3) := by decide +kernel
theorem dX0_turnKnown_18 : decode cX0_turnKnown 18 = .ok (.iload_n 1, 1) := by decide +kernel
theorem dX0_turnKnown_19 : decode cX0_turnKnown 19 = .ok (.bipush 12, 2) := by decide +kernel
theorem dX0_turnKnown_21 : decode cX0_turnKnown 21 = .ok (.idiv, 1) := by decide +kernel
theorem dX0_turnKnown_22 : decode cX0_turnKnown 22 = .ok (.dup2, 1) := by decide +kernel
theorem dX0_turnKnown_23 : decode cX0_turnKnown 23 = .ok (.iaload, 1) := by decide +kernel
theorem dX0_turnKnown_24 : decode cX0_turnKnown 24 = .ok (.iconst 1, 1) := by decide +kernel
theorem dX0_turnKnown_25 : decode cX0_turnKnown 25 = .ok (.iload_n 1, 1) := by decide +kernel
theorem dX0_turnKnown_26 : decode cX0_turnKnown 26 = .ok (.bipush 12, 2) := by decide +kernel
theorem dX0_turnKnown_28 : decode cX0_turnKnown 28 = .ok (.irem, 1) := by decide +kernel
theorem dX0_turnKnown_29 : decode cX0_turnKnown 29 = .ok (.ishl, 1) := by decide +kernel
theorem dX0_turnKnown_30 : decode cX0_turnKnown 30 = .ok (.ixor, 1) := by decide +kernel
theorem dX0_turnKnown_31 : decode cX0_turnKnown 31 = .ok (.iastore, 1) := by decide +kernel
theorem dX0_turnKnown_32 : decode cX0_turnKnown 32 = .ok (.return_, 1) := by decide +kernel
theorem dX1_init_0 : decode cX1_init 0 = .ok (.aload_n 0, 1) := by decide +kernel
theorem dX1_init_1 : decode cX1_init 1 = .ok (.invokespecial 1, 3) := by decide +kernel
theorem dX1_init_4 : decode cX1_init 4 = .ok (.aload_n 0, 1) := by decide +kernel
theorem dX1_init_5 : decode cX1_init 5 = .ok (.iload_n 1, 1) := by decide +kernel
theorem dX1_init_6 : decode cX1_init 6 = .ok (.putfield 7, 3) := by decide +kernel
theorem dX1_init_9 : decode cX1_init 9 = .ok (.aload_n 0, 1) := by decide +kernel
theorem dX1_init_10 : decode cX1_init 10 = .ok (.aload_n 2, 1) := by decide +kernel
theorem dX1_init_11 : decode cX1_init 11 = .ok (.putfield 13, 3) := by decide +kernel
theorem dX1_init_14 : decode cX1_init 14 = .ok (.aload_n 0, 1) := by decide +kernel
theorem dX1_init_15 : decode cX1_init 15 = .ok (.iload_n 3, 1) := by decide +kernel
theorem dX1_init_16 : decode cX1_init 16 = .ok (.putfield 17, 3) := by decide +kernel
theorem dX1_init_19 : decode cX1_init 19 = .ok (.aload_n 0, 1) := by decide +kernel
theorem dX1_init_20 : decode cX1_init 20 = .ok (.iload 4, 2) := by decide +kernel
theorem dX1_init_22 : decode cX1_init 22 = .ok (.putfield 21, 3) := by decide +kernel
theorem dX1_init_25 : decode cX1_init 25 = .ok (.return_, 1) := by decide +kernel
theorem dX2_init_0 : decode cX2_init 0 = .ok (.aload_n 0, 1) := by decide +kernel
theorem dX2_init_1 : decode cX2_init 1 = .ok (.invokespecial 3, 3) := by decide +kernel
theorem dX2_init_4 : decode cX2_init 4 = .ok (.aload_n 0, 1) := by decide +kernel
theorem dX2_init_5 : decode cX2_init 5 = .ok (.iconst 0, 1) := by decide +kernel
theorem dX2_init_6 : decode cX2_init 6 = .ok (.newarray .int, 2) := by decide +kernel
theorem dX2_init_8 : decode cX2_init 8 = .ok (.putfield 9, 3) := by decide +kernel
theorem dX2_init_11 : decode cX2_init 11 = .ok (.aload_n 0, 1) := by decide +kernel
theorem dX2_init_12 : decode cX2_init 12 = .ok (.sipush 400, 3) := by decide +kernel
theorem dX2_init_15 : decode cX2_init 15 = .ok (.newarray .int, 2) := by decide +kernel
theorem dX2_init_17 : decode cX2_init 17 = .ok (.putfield 15, 3) := by decide +kernel
theorem dX2_init_20 : decode cX2_init 20 = .ok (.return_, 1) := by decide +kernel
theorem dX2_read_0 : decode cX2_read 0 = .ok (.aload_n 0, 1) := by decide +kernel
theorem dX2_read_1 : decode cX2_read 1 = .ok (.aload_n 1, 1) := by decide +kernel
theorem dX2_read_2 : decode cX2_read 2 = .ok (.putfield 9, 3) := by decide +kernel
theorem dX2_read_5 : decode cX2_read 5 = .ok (.aload_n 0, 1) := by decide +kernel
theorem dX2_read_6 : decode cX2_read 6 = .ok (.iload_n 2, 1) := by decide +kernel
theorem dX2_read_7 : decode cX2_read 7 = .ok (.aload_n 1, 1) := by decide +kernel
theorem dX2_read_8 : decode cX2_read 8 = .ok (.arraylength, 1) := by decide +kernel
theorem dX2_read_9 : decode cX2_read 9 = .ok (.invokestatic 18, 3) := by decide +kernel
theorem dX2_read_12 : decode cX2_read 12 = .ok (.putfield 24, 3) := by decide +kernel
theorem dX2_read_15 : decode cX2_read 15 = .ok (.aload_n 0, 1) := by decide +kernel
theorem dX2_read_16 : decode cX2_read 16 = .ok (.iconst 0, 1) := by decide +kernel
theorem dX2_read_17 : decode cX2_read 17 = .ok (.putfield 28, 3) := by decide +kernel
theorem dX2_read_20 : decode cX2_read 20 = .ok (.aload_n 0, 1) := by decide +kernel
theorem dX2_read_21 : decode cX2_read 21 = .ok (.iconst 0, 1) := by decide +kernel
theorem dX2_read_22 : decode cX2_read 22 = .ok (.putfield 31, 3) := by decide +kernel
theorem dX2_read_25 : decode cX2_read 25 = .ok (.aload_n 0, 1) := by decide +kernel
theorem dX2_read_26 : decode cX2_read 26 = .ok (.iconst 0, 1) := by decide +kernel
theorem dX2_read_27 : decode cX2_read 27 = .ok (.putfield 34, 3) := by decide +kernel
theorem dX2_read_30 : decode cX2_read 30 = .ok (.aload_n 0, 1) := by decide +kernel
theorem dX2_read_31 : decode cX2_read 31 = .ok (.iconst 0, 1) := by decide +kernel
theorem dX2_read_32 : decode cX2_read 32 = .ok (.putfield 37, 3) := by decide +kernel
theorem dX2_read_35 : decode cX2_read 35 = .ok (.aload_n 0, 1) := by decide +kernel
theorem dX2_read_36 : decode cX2_read 36 = .ok (.iconst 0, 1) := by decide +kernel
theorem dX2_read_37 : decode cX2_read 37 = .ok (.putfield 40, 3) := by decide +kernel
theorem dX2_read_40 : decode cX2_read 40 = .ok (.aload_n 0, 1) := by decide +kernel
theorem dX2_read_41 : decode cX2_read 41 = .ok (.iconst 0, 1) := by decide +kernel
theorem dX2_read_42 : decode cX2_read 42 = .ok (.putfield 44, 3) := by decide +kernel
theorem dX2_read_45 : decode cX2_read 45 = .ok (.aload_n 0, 1) := by decide +kernel
theorem dX2_read_46 : decode cX2_read 46 = .ok (.invokevirtual 47, 3) := by decide +kernel
theorem dX2_read_49 : decode cX2_read 49 = .ok (.aload_n 0, 1) := by decide +kernel
theorem dX2_read_50 : decode cX2_read 50 = .ok (.iconst 0, 1) := by decide +kernel
theorem dX2_read_51 : decode cX2_read 51 = .ok (.iconst 0, 1) := by decide +kernel
theorem dX2_read_52 : decode cX2_read 52 = .ok (.invokevirtual 50, 3) := by decide +kernel
theorem dX2_read_55 : decode cX2_read 55 = .ok (.aload_n 0, 1) := by decide +kernel
theorem dX2_read_56 : decode cX2_read 56 = .ok (.getfield 31, 3) := by decide +kernel
theorem dX2_read_59 : decode cX2_read 59 = .ok (.ifCond .ne 24, 3) := by decide +kernel
theorem dX2_read_62 : decode cX2_read 62 = .ok (.aload_n 0, 1) := by decide +kernel
theorem dX2_read_63 : decode cX2_read 63 = .ok (.invokevirtual 54, 3) := by decide +kernel
theorem dX2_read_66 : decode cX2_read 66 = .ok (.pop, 1) := by decide +kernel
theorem dX2_read_67 : decode cX2_read 67 = .ok (.aload_n 0, 1) := by decide +kernel
theorem dX2_read_68 : decode cX2_read 68 = .ok (.getfield 58, 3) := by decide +kernel
theorem dX2_read_71 : decode cX2_read 71 = .ok (.aload_n 0, 1) := by decide +kernel
theorem dX2_read_72 : decode cX2_read 72 = .ok (.getfield 24, 3) := by decide +kernel
theorem dX2_read_75 : decode cX2_read 75 = .ok (.if_icmp .ge 8, 3) := by decide +kernel
theorem dX2_read_78 : decode cX2_read 78 = .ok (.aload_n 0, 1) := by decide +kernel
theorem dX2_read_79 : decode cX2_read 79 = .ok (.iconst 0, 1) := by decide +kernel
theorem dX2_read_80 : decode cX2_read 80 = .ok (.invokevirtual 61, 3) := by decide +kernel
theorem dX2_read_83 : decode cX2_read 83 = .ok (.aload_n 0, 1) := by decide +kernel
theorem dX2_read_84 : decode cX2_read 84 = .ok (.getfield 31, 3) := by decide +kernel
theorem dX2_read_87 : decode cX2_read 87 = .ok (.ireturn, 1) := by decide +kernel
theorem dX2_newCover_0 : decode cX2_newCover 0 = .ok (.new 65, 3) := by decide +kernel
theorem dX2_newCover_3 : decode cX2_newCover 3 = .ok (.dup, 1) := by decide +kernel
theorem dX2_newCover_4 : decode cX2_newCover 4 = .ok (.iload_n 1, 1) := by decide +kernel
theorem dX2_newCover_5 : decode cX2_newCover 5 = .ok (.aload_n 0, 1) := by decide +kernel
theorem dX2_newCover_6 : decode cX2_newCover 6 = .ok (.getfield 15, 3) := by decide +kernel
theorem dX2_newCover_9 : decode cX2_newCover 9 = .ok (.aload_n 0, 1) := by decide +kernel
theorem dX2_newCover_10 : decode cX2_newCover 10 = .ok (.getfield 37, 3) := by decide +kernel
theorem dX2_newCover_13 : decode cX2_newCover 13 = .ok (.invokestatic 67, 3) := by decide +kernel
theorem dX2_newCover_16 : decode cX2_newCover 16 = .ok (.aload_n 0, 1) := by decide +kernel
theorem dX2_newCover_17 : decode cX2_newCover 17 = .ok (.getfield 40, 3) := by decide +kernel
theorem dX2_newCover_20 : decode cX2_newCover 20 = .ok (.aload_n 0, 1) := by decide +kernel
theorem dX2_newCover_21 : decode cX2_newCover 21 = .ok (.getfield 44, 3) := by decide +kernel
theorem dX2_newCover_24 : decode cX2_newCover 24 = .ok (.invokespecial 73, 3) := by decide +kernel
theorem dX2_newCover_27 : decode cX2_newCover 27 = .ok (.areturn, 1) := by decide +kernel
theorem dX2_readHead_0 : decode cX2_readHead 0 = .ok (.iconst 0, 1) := by decide +kernel
theorem dX2_readHead_1 : decode cX2_readHead 1 = .ok (.istore_n 1, 1) := by decide +kernel
theorem dX2_readHead_2 : decode cX2_readHead 2 = .ok (.iload_n 1, 1) := by decide +kernel
theorem dX2_readHead_3 : decode cX2_readHead 3 = .ok (.iconst 2, 1) := by decide +kernel
theorem dX2_readHead_4 : decode cX2_readHead 4 = .ok (.if_icmp .ge 61, 3) := by decide +kernel
theorem dX2_readHead_7 : decode cX2_readHead 7 = .ok (.aload_n 0, 1) := by decide +kernel
theorem dX2_readHead_8 : decode cX2_readHead 8 = .ok (.invokevirtual 54, 3) := by decide +kernel
theorem dX2_readHead_11 : decode cX2_readHead 11 = .ok (.istore_n 2, 1) := by decide +kernel
theorem dX2_readHead_12 : decode cX2_readHead 12 = .ok (.iload_n 2, 1) := by decide +kernel
theorem dX2_readHead_13 : decode cX2_readHead 13 = .ok (.bipush 30, 2) := by decide +kernel
theorem dX2_readHead_15 : decode cX2_readHead 15 = .ok (.if_icmp .ne 18, 3) := by decide +kernel
theorem dX2_readHead_18 : decode cX2_readHead 18 = .ok (.aload_n 0, 1) := by decide +kernel
theorem dX2_readHead_19 : decode cX2_readHead 19 = .ok (.getfield 40, 3) := by decide +kernel
theorem dX2_readHead_22 : decode cX2_readHead 22 = .ok (.ifCond .ne 11, 3) := by decide +kernel
theorem dX2_readHead_25 : decode cX2_readHead 25 = .ok (.aload_n 0, 1) := by decide +kernel
theorem dX2_readHead_26 : decode cX2_readHead 26 = .ok (.iconst 1, 1) := by decide +kernel
theorem dX2_readHead_27 : decode cX2_readHead 27 = .ok (.putfield 40, 3) := by decide +kernel
theorem dX2_readHead_30 : decode cX2_readHead 30 = .ok (.goto 29, 3) := by decide +kernel
theorem dX2_readHead_33 : decode cX2_readHead 33 = .ok (.iload_n 2, 1) := by decide +kernel
theorem dX2_readHead_34 : decode cX2_readHead 34 = .ok (.bipush 31, 2) := by decide +kernel
theorem dX2_readHead_36 : decode cX2_readHead 36 = .ok (.if_icmp .ne 18, 3) := by decide +kernel
theorem dX2_readHead_39 : decode cX2_readHead 39 = .ok (.aload_n 0, 1) := by decide +kernel
theorem dX2_readHead_40 : decode cX2_readHead 40 = .ok (.getfield 44, 3) := by decide +kernel
theorem dX2_readHead_43 : decode cX2_readHead 43 = .ok (.ifCond .ne 11, 3) := by decide +kernel
theorem dX2_readHead_46 : decode cX2_readHead 46 = .ok (.aload_n 0, 1) := by decide +kernel
theorem dX2_readHead_47 : decode cX2_readHead 47 = .ok (.iconst 1, 1) := by decide +kernel
theorem dX2_readHead_48 : decode cX2_readHead 48 = .ok (.putfield 44, 3) := by decide +kernel
theorem dX2_readHead_51 : decode cX2_readHead 51 = .ok (.goto 8, 3) := by decide +kernel
theorem dX2_readHead_54 : decode cX2_readHead 54 = .ok (.aload_n 0, 1) := by decide +kernel
theorem dX2_readHead_55 : decode cX2_readHead 55 = .ok (.invokevirtual 76, 3) := by decide +kernel
theorem dX2_readHead_58 : decode cX2_readHead 58 = .ok (.return_, 1) := by decide +kernel
theorem dX2_readHead_59 : decode cX2_readHead 59 = .ok (.iinc 1 1, 3) := by decide +kernel
theorem dX2_readHead_62 : decode cX2_readHead 62 = .ok (.goto (-60), 3) := by decide +kernel
theorem dX2_readHead_65 : decode cX2_readHead 65 = .ok (.return_, 1) := by decide +kernel
theorem dX2_readTest_0 : decode cX2_readTest 0 = .ok (.aload_n 0, 1) := by decide +kernel
theorem dX2_readTest_1 : decode cX2_readTest 1 = .ok (.iload_n 1, 1) := by decide +kernel
theorem dX2_readTest_2 : decode cX2_readTest 2 = .ok (.iload_n 2, 1) := by decide +kernel
theorem dX2_readTest_3 : decode cX2_readTest 3 = .ok (.invokevirtual 79, 3) := by decide +kernel
theorem dX2_readTest_6 : decode cX2_readTest 6 = .ok (.iconst 1, 1) := by decide +kernel
theorem dX2_readTest_7 : decode cX2_readTest 7 = .ok (.istore_n 3, 1) := by decide +kernel
theorem dX2_readTest_8 : decode cX2_readTest 8 = .ok (.iload_n 3, 1) := by decide +kernel
theorem dX2_readTest_9 : decode cX2_readTest 9 = .ok (.sipush 400, 3) := by decide +kernel
theorem dX2_readTest_12 : decode cX2_readTest 12 = .ok (.if_icmp .gt 42, 3) := by decide +kernel
theorem dX2_readTest_15 : decode cX2_readTest 15 = .ok (.aload_n 0, 1) := by decide +kernel
theorem dX2_readTest_16 : decode cX2_readTest 16 = .ok (.getfield 31, 3) := by decide +kernel
theorem dX2_readTest_19 : decode cX2_readTest 19 = .ok (.ifCond .ne 35, 3) := by decide +kernel
theorem dX2_readTest_22 : decode cX2_readTest 22 = .ok (.aload_n 0, 1) := by decide +kernel
theorem dX2_readTest_23 : decode cX2_readTest 23 = .ok (.invokevirtual 54, 3) := by decide +kernel
theorem dX2_readTest_26 : decode cX2_readTest 26 = .ok (.bipush 27, 2) := by decide +kernel
theorem dX2_readTest_28 : decode cX2_readTest 28 = .ok (.if_icmp .eq 8, 3) := by decide +kernel
theorem dX2_readTest_31 : decode cX2_readTest 31 = .ok (.aload_n 0, 1) := by decide +kernel
theorem dX2_readTest_32 : decode cX2_readTest 32 = .ok (.invokevirtual 76, 3) := by decide +kernel
theorem dX2_readTest_35 : decode cX2_readTest 35 = .ok (.return_, 1) := by decide +kernel
theorem dX2_readTest_36 : decode cX2_readTest 36 = .ok (.aload_n 0, 1) := by decide +kernel
theorem dX2_readTest_37 : decode cX2_readTest 37 = .ok (.iload_n 1, 1) := by decide +kernel
theorem dX2_readTest_38 : decode cX2_readTest 38 = .ok (.iload_n 2, 1) := by decide +kernel
theorem dX2_readTest_39 : decode cX2_readTest 39 = .ok (.invokevirtual 79, 3) := by decide +kernel
theorem dX2_readTest_42 : decode cX2_readTest 42 = .ok (.aload_n 0, 1) := by decide +kernel
theorem dX2_readTest_43 : decode cX2_readTest 43 = .ok (.bipush 27, 2) := by decide +kernel
theorem dX2_readTest_45 : decode cX2_readTest 45 = .ok (.invokevirtual 82, 3) := by decide +kernel
theorem dX2_readTest_48 : decode cX2_readTest 48 = .ok (.iinc 3 1, 3) := by decide +kernel
theorem dX2_readTest_51 : decode cX2_readTest 51 = .ok (.goto (-43), 3) := by decide +kernel
theorem dX2_readTest_54 : decode cX2_readTest 54 = .ok (.return_, 1) := by decide +kernel
theorem dX2_readPart_0 : decode cX2_readPart 0 = .ok (.aload_n 0, 1) := by decide +kernel
theorem dX2_readPart_1 : decode cX2_readPart 1 = .ok (.iload_n 1, 1) := by decide +kernel
theorem dX2_readPart_2 : decode cX2_readPart 2 = .ok (.iload_n 2, 1) := by decide +kernel
theorem dX2_readPart_3 : decode cX2_readPart 3 = .ok (.invokevirtual 85, 3) := by decide +kernel
theorem dX2_readPart_6 : decode cX2_readPart 6 = .ok (.iconst 1, 1) := by decide +kernel
theorem dX2_readPart_7 : decode cX2_readPart 7 = .ok (.istore_n 3, 1) := by decide +kernel
theorem dX2_readPart_8 : decode cX2_readPart 8 = .ok (.iload_n 3, 1) := by decide +kernel
theorem dX2_readPart_9 : decode cX2_readPart 9 = .ok (.sipush 400, 3) := by decide +kernel
theorem dX2_readPart_12 : decode cX2_readPart 12 = .ok (.if_icmp .gt 42, 3) := by decide +kernel
theorem dX2_readPart_15 : decode cX2_readPart 15 = .ok (.aload_n 0, 1) := by decide +kernel
theorem dX2_readPart_16 : decode cX2_readPart 16 = .ok (.getfield 31, 3) := by decide +kernel
theorem dX2_readPart_19 : decode cX2_readPart 19 = .ok (.ifCond .ne 35, 3) := by decide +kernel
theorem dX2_readPart_22 : decode cX2_readPart 22 = .ok (.aload_n 0, 1) := by decide +kernel
theorem dX2_readPart_23 : decode cX2_readPart 23 = .ok (.invokevirtual 54, 3) := by decide +kernel
theorem dX2_readPart_26 : decode cX2_readPart 26 = .ok (.bipush 26, 2) := by decide +kernel
theorem dX2_readPart_28 : decode cX2_readPart 28 = .ok (.if_icmp .eq 8, 3) := by decide +kernel
theorem dX2_readPart_31 : decode cX2_readPart 31 = .ok (.aload_n 0, 1) := by decide +kernel
theorem dX2_readPart_32 : decode cX2_readPart 32 = .ok (.invokevirtual 76, 3) := by decide +kernel
theorem dX2_readPart_35 : decode cX2_readPart 35 = .ok (.return_, 1) := by decide +kernel
theorem dX2_readPart_36 : decode cX2_readPart 36 = .ok (.aload_n 0, 1) := by decide +kernel
theorem dX2_readPart_37 : decode cX2_readPart 37 = .ok (.iload_n 1, 1) := by decide +kernel
theorem dX2_readPart_38 : decode cX2_readPart 38 = .ok (.iload_n 2, 1) := by decide +kernel
theorem dX2_readPart_39 : decode cX2_readPart 39 = .ok (.invokevirtual 85, 3) := by decide +kernel
theorem dX2_readPart_42 : decode cX2_readPart 42 = .ok (.aload_n 0, 1) := by decide +kernel
theorem dX2_readPart_43 : decode cX2_readPart 43 = .ok (.bipush 26, 2) := by decide +kernel
theorem dX2_readPart_45 : decode cX2_readPart 45 = .ok (.invokevirtual 82, 3) := by decide +kernel
theorem dX2_readPart_48 : decode cX2_readPart 48 = .ok (.iinc 3 1, 3) := by decide +kernel
theorem dX2_readPart_51 : decode cX2_readPart 51 = .ok (.goto (-43), 3) := by decide +kernel
theorem dX2_readPart_54 : decode cX2_readPart 54 = .ok (.return_, 1) := by decide +kernel
theorem dX2_readFact_0 : decode cX2_readFact 0 = .ok (.aload_n 0, 1) := by decide +kernel
theorem dX2_readFact_1 : decode cX2_readFact 1 = .ok (.getfield 31, 3) := by decide +kernel
theorem dX2_readFact_4 : decode cX2_readFact 4 = .ok (.ifCond .eq 4, 3) := by decide +kernel
theorem dX2_readFact_7 : decode cX2_readFact 7 = .ok (.return_, 1) := by decide +kernel
theorem dX2_readFact_8 : decode cX2_readFact 8 = .ok (.aload_n 0, 1) := by decide +kernel
theorem dX2_readFact_9 : decode cX2_readFact 9 = .ok (.invokevirtual 54, 3) := by decide +kernel
theorem dX2_readFact_12 : decode cX2_readFact 12 = .ok (.istore_n 3, 1) := by decide +kernel
theorem dX2_readFact_13 : decode cX2_readFact 13 = .ok (.iload_n 3, 1) := by decide +kernel
theorem dX2_readFact_14 : decode cX2_readFact 14 = .ok (.bipush 10, 2) := by decide +kernel
theorem dX2_readFact_16 : decode cX2_readFact 16 = .ok (.if_icmp .lt 9, 3) := by decide +kernel
theorem dX2_readFact_19 : decode cX2_readFact 19 = .ok (.iload_n 3, 1) := by decide +kernel
theorem dX2_readFact_20 : decode cX2_readFact 20 = .ok (.bipush 24, 2) := by decide +kernel
theorem dX2_readFact_22 : decode cX2_readFact 22 = .ok (.if_icmp .ne 15, 3) := by decide +kernel
theorem dX2_readFact_25 : decode cX2_readFact 25 = .ok (.aload_n 0, 1) := by decide +kernel
theorem dX2_readFact_26 : decode cX2_readFact 26 = .ok (.invokevirtual 88, 3) := by decide +kernel
theorem dX2_readFact_29 : decode cX2_readFact 29 = .ok (.aload_n 0, 1) := by decide +kernel
theorem dX2_readFact_30 : decode cX2_readFact 30 = .ok (.iload_n 3, 1) := by decide +kernel
theorem dX2_readFact_31 : decode cX2_readFact 31 = .ok (.invokevirtual 82, 3) := by decide +kernel
theorem dX2_readFact_34 : decode cX2_readFact 34 = .ok (.goto 94, 3) := by decide +kernel
theorem dX2_readFact_37 : decode cX2_readFact 37 = .ok (.iload_n 3, 1) := by decide +kernel
theorem dX2_readFact_38 : decode cX2_readFact 38 = .ok (.bipush 16, 2) := by decide +kernel
theorem dX2_readFact_40 : decode cX2_readFact 40 = .ok (.if_icmp .ge 30, 3) := by decide +kernel
theorem dX2_readFact_43 : decode cX2_readFact 43 = .ok (.iload_n 2, 1) := by decide +kernel
theorem dX2_readFact_44 : decode cX2_readFact 44 = .ok (.iconst 4, 1) := by decide +kernel
theorem dX2_readFact_45 : decode cX2_readFact 45 = .ok (.if_icmp .lt 9, 3) := by decide +kernel
theorem dX2_readFact_48 : decode cX2_readFact 48 = .ok (.aload_n 0, 1) := by decide +kernel
theorem dX2_readFact_49 : decode cX2_readFact 49 = .ok (.iconst 2, 1) := by decide +kernel
theorem dX2_readFact_50 : decode cX2_readFact 50 = .ok (.invokevirtual 61, 3) := by decide +kernel
theorem dX2_readFact_53 : decode cX2_readFact 53 = .ok (.return_, 1) := by decide +kernel
theorem dX2_readFact_54 : decode cX2_readFact 54 = .ok (.aload_n 0, 1) := by decide +kernel
theorem dX2_readFact_55 : decode cX2_readFact 55 = .ok (.iload_n 1, 1) := by decide +kernel
theorem dX2_readFact_56 : decode cX2_readFact 56 = .ok (.iload_n 2, 1) := by decide +kernel
theorem dX2_readFact_57 : decode cX2_readFact 57 = .ok (.iconst 1, 1) := by decide +kernel
theorem dX2_readFact_58 : decode cX2_readFact 58 = .ok (.iadd, 1) := by decide +kernel
theorem dX2_readFact_59 : decode cX2_readFact 59 = .ok (.invokevirtual 85, 3) := by decide +kernel
theorem dX2_readFact_62 : decode cX2_readFact 62 = .ok (.aload_n 0, 1) := by decide +kernel
theorem dX2_readFact_63 : decode cX2_readFact 63 = .ok (.iload_n 3, 1) := by decide +kernel
theorem dX2_readFact_64 : decode cX2_readFact 64 = .ok (.invokevirtual 82, 3) := by decide +kernel
theorem dX2_readFact_67 : decode cX2_readFact 67 = .ok (.goto 61, 3) := by decide +kernel
theorem dX2_readFact_70 : decode cX2_readFact 70 = .ok (.iload_n 3, 1) := by decide +kernel
theorem dX2_readFact_71 : decode cX2_readFact 71 = .ok (.bipush 16, 2) := by decide +kernel
theorem dX2_readFact_73 : decode cX2_readFact 73 = .ok (.if_icmp .ne 14, 3) := by decide +kernel
theorem dX2_readFact_76 : decode cX2_readFact 76 = .ok (.aload_n 0, 1) := by decide +kernel
theorem dX2_readFact_77 : decode cX2_readFact 77 = .ok (.invokevirtual 88, 3) := by decide +kernel
theorem dX2_readFact_80 : decode cX2_readFact 80 = .ok (.aload_n 0, 1) := by decide +kernel
theorem dX2_readFact_81 : decode cX2_readFact 81 = .ok (.invokevirtual 91, 3) := by decide +kernel
theorem dX2_readFact_84 : decode cX2_readFact 84 = .ok (.goto 44, 3) := by decide +kernel
theorem dX2_readFact_87 : decode cX2_readFact 87 = .ok (.iload_n 3, 1) := by decide +kernel
theorem dX2_readFact_88 : decode cX2_readFact 88 = .ok (.bipush 25, 2) := by decide +kernel
theorem dX2_readFact_90 : decode cX2_readFact 90 = .ok (.if_icmp .eq 9, 3) := by decide +kernel
theorem dX2_readFact_93 : decode cX2_readFact 93 = .ok (.iload_n 3, 1) := by decide +kernel
theorem dX2_readFact_94 : decode cX2_readFact 94 = .ok (.bipush 28, 2) := by decide +kernel
theorem dX2_readFact_96 : decode cX2_readFact 96 = .ok (.if_icmp .ne 27, 3) := by decide +kernel
theorem dX2_readFact_99 : decode cX2_readFact 99 = .ok (.iload_n 1, 1) := by decide +kernel
theorem dX2_readFact_100 : decode cX2_readFact 100 = .ok (.bipush 10, 2) := by decide +kernel
theorem dX2_readFact_102 : decode cX2_readFact 102 = .ok (.if_icmp .lt 9, 3) := by decide +kernel
theorem dX2_readFact_105 : decode cX2_readFact 105 = .ok (.aload_n 0, 1) := by decide +kernel
theorem dX2_readFact_106 : decode cX2_readFact 106 = .ok (.iconst 2, 1) := by decide +kernel
theorem dX2_readFact_107 : decode cX2_readFact 107 = .ok (.invokevirtual 61, 3) := by decide +kernel
theorem dX2_readFact_110 : decode cX2_readFact 110 = .ok (.return_, 1) := by decide +kernel
theorem dX2_readFact_111 : decode cX2_readFact 111 = .ok (.aload_n 0, 1) := by decide +kernel
theorem dX2_readFact_112 : decode cX2_readFact 112 = .ok (.iload_n 3, 1) := by decide +kernel
theorem dX2_readFact_113 : decode cX2_readFact 113 = .ok (.iload_n 1, 1) := by decide +kernel
theorem dX2_readFact_114 : decode cX2_readFact 114 = .ok (.iconst 1, 1) := by decide +kernel
theorem dX2_readFact_115 : decode cX2_readFact 115 = .ok (.iadd, 1) := by decide +kernel
theorem dX2_readFact_116 : decode cX2_readFact 116 = .ok (.iload_n 2, 1) := by decide +kernel
theorem dX2_readFact_117 : decode cX2_readFact 117 = .ok (.invokevirtual 94, 3) := by decide +kernel
theorem dX2_readFact_120 : decode cX2_readFact 120 = .ok (.goto 8, 3) := by decide +kernel
theorem dX2_readFact_123 : decode cX2_readFact 123 = .ok (.aload_n 0, 1) := by decide +kernel
theorem dX2_readFact_124 : decode cX2_readFact 124 = .ok (.iconst 0, 1) := by decide +kernel
theorem dX2_readFact_125 : decode cX2_readFact 125 = .ok (.invokevirtual 61, 3) := by decide +kernel
theorem dX2_readFact_128 : decode cX2_readFact 128 = .ok (.return_, 1) := by decide +kernel
theorem dX2_readNested_0 : decode cX2_readNested 0 = .ok (.iload_n 1, 1) := by decide +kernel
theorem dX2_readNested_1 : decode cX2_readNested 1 = .ok (.bipush 25, 2) := by decide +kernel
theorem dX2_readNested_3 : decode cX2_readNested 3 = .ok (.if_icmp .ne 16, 3) := by decide +kernel
theorem dX2_readNested_6 : decode cX2_readNested 6 = .ok (.aload_n 0, 1) := by decide +kernel
theorem dX2_readNested_7 : decode cX2_readNested 7 = .ok (.iload_n 2, 1) := by decide +kernel
theorem dX2_readNested_8 : decode cX2_readNested 8 = .ok (.iload_n 3, 1) := by decide +kernel
theorem dX2_readNested_9 : decode cX2_readNested 9 = .ok (.invokevirtual 85, 3) := by decide +kernel
theorem dX2_readNested_12 : decode cX2_readNested 12 = .ok (.aload_n 0, 1) := by decide +kernel
theorem dX2_readNested_13 : decode cX2_readNested 13 = .ok (.bipush 25, 2) := by decide +kernel
theorem dX2_readNested_15 : decode cX2_readNested 15 = .ok (.invokevirtual 82, 3) := by decide +kernel
theorem dX2_readNested_18 : decode cX2_readNested 18 = .ok (.return_, 1) := by decide +kernel
theorem dX2_readNested_19 : decode cX2_readNested 19 = .ok (.aload_n 0, 1) := by decide +kernel
theorem dX2_readNested_20 : decode cX2_readNested 20 = .ok (.iload_n 2, 1) := by decide +kernel
theorem dX2_readNested_21 : decode cX2_readNested 21 = .ok (.iload_n 3, 1) := by decide +kernel
theorem dX2_readNested_22 : decode cX2_readNested 22 = .ok (.invokevirtual 50, 3) := by decide +kernel
theorem dX2_readNested_25 : decode cX2_readNested 25 = .ok (.aload_n 0, 1) := by decide +kernel
theorem dX2_readNested_26 : decode cX2_readNested 26 = .ok (.getfield 31, 3) := by decide +kernel
theorem dX2_readNested_29 : decode cX2_readNested 29 = .ok (.ifCond .ne 17, 3) := by decide +kernel
theorem dX2_readNested_32 : decode cX2_readNested 32 = .ok (.aload_n 0, 1) := by decide +kernel
theorem dX2_readNested_33 : decode cX2_readNested 33 = .ok (.invokevirtual 54, 3) := by decide +kernel
theorem dX2_readNested_36 : decode cX2_readNested 36 = .ok (.bipush 29, 2) := by decide +kernel
theorem dX2_readNested_38 : decode cX2_readNested 38 = .ok (.if_icmp .eq 8, 3) := by decide +kernel
theorem dX2_readNested_41 : decode cX2_readNested 41 = .ok (.aload_n 0, 1) := by decide +kernel
theorem dX2_readNested_42 : decode cX2_readNested 42 = .ok (.iconst 0, 1) := by decide +kernel
theorem dX2_readNested_43 : decode cX2_readNested 43 = .ok (.invokevirtual 61, 3) := by decide +kernel
theorem dX2_readNested_46 : decode cX2_readNested 46 = .ok (.return_, 1) := by decide +kernel
theorem dX2_readPlace_0 : decode cX2_readPlace 0 = .ok (.aload_n 0, 1) := by decide +kernel
theorem dX2_readPlace_1 : decode cX2_readPlace 1 = .ok (.getfield 31, 3) := by decide +kernel
theorem dX2_readPlace_4 : decode cX2_readPlace 4 = .ok (.ifCond .eq 4, 3) := by decide +kernel
theorem dX2_readPlace_7 : decode cX2_readPlace 7 = .ok (.return_, 1) := by decide +kernel
theorem dX2_readPlace_8 : decode cX2_readPlace 8 = .ok (.aload_n 0, 1) := by decide +kernel
theorem dX2_readPlace_9 : decode cX2_readPlace 9 = .ok (.invokevirtual 98, 3) := by decide +kernel
theorem dX2_readPlace_12 : decode cX2_readPlace 12 = .ok (.aload_n 0, 1) := by decide +kernel
theorem dX2_readPlace_13 : decode cX2_readPlace 13 = .ok (.getfield 28, 3) := by decide +kernel
theorem dX2_readPlace_16 : decode cX2_readPlace 16 = .ok (.aload_n 0, 1) := by decide +kernel
theorem dX2_readPlace_17 : decode cX2_readPlace 17 = .ok (.getfield 24, 3) := by decide +kernel
theorem dX2_readPlace_20 : decode cX2_readPlace 20 = .ok (.if_icmp .ge 31, 3) := by decide +kernel
theorem dX2_readPlace_23 : decode cX2_readPlace 23 = .ok (.aload_n 0, 1) := by decide +kernel
theorem dX2_readPlace_24 : decode cX2_readPlace 24 = .ok (.getfield 9, 3) := by decide +kernel
theorem dX2_readPlace_27 : decode cX2_readPlace 27 = .ok (.aload_n 0, 1) := by decide +kernel
theorem dX2_readPlace_28 : decode cX2_readPlace 28 = .ok (.getfield 28, 3) := by decide +kernel
theorem dX2_readPlace_31 : decode cX2_readPlace 31 = .ok (.iaload, 1) := by decide +kernel
theorem dX2_readPlace_32 : decode cX2_readPlace 32 = .ok (.invokestatic 101, 3) := by decide +kernel
theorem dX2_readPlace_35 : decode cX2_readPlace 35 = .ok (.ifCond .eq 16, 3) := by decide +kernel
theorem dX2_readPlace_38 : decode cX2_readPlace 38 = .ok (.aload_n 0, 1) := by decide +kernel
theorem dX2_readPlace_39 : decode cX2_readPlace 39 = .ok (.dup, 1) := by decide +kernel
theorem dX2_readPlace_40 : decode cX2_readPlace 40 = .ok (.getfield 28, 3) := by decide +kernel
theorem dX2_readPlace_43 : decode cX2_readPlace 43 = .ok (.iconst 1, 1) := by decide +kernel
theorem dX2_readPlace_44 : decode cX2_readPlace 44 = .ok (.iadd, 1) := by decide +kernel
theorem dX2_readPlace_45 : decode cX2_readPlace 45 = .ok (.putfield 28, 3) := by decide +kernel
theorem dX2_readPlace_48 : decode cX2_readPlace 48 = .ok (.goto (-36), 3) := by decide +kernel
theorem dX2_readPlace_51 : decode cX2_readPlace 51 = .ok (.aload_n 0, 1) := by decide +kernel
theorem dX2_readPlace_52 : decode cX2_readPlace 52 = .ok (.getfield 58, 3) := by decide +kernel
theorem dX2_readPlace_55 : decode cX2_readPlace 55 = .ok (.aload_n 0, 1) := by decide +kernel
theorem dX2_readPlace_56 : decode cX2_readPlace 56 = .ok (.getfield 28, 3) := by decide +kernel
theorem dX2_readPlace_59 : decode cX2_readPlace 59 = .ok (.if_icmp .ne 11, 3) := by decide +kernel
theorem dX2_readPlace_62 : decode cX2_readPlace 62 = .ok (.aload_n 0, 1) := by decide +kernel
theorem dX2_readPlace_63 : decode cX2_readPlace 63 = .ok (.iconst 0, 1) := by decide +kernel
theorem dX2_readPlace_64 : decode cX2_readPlace 64 = .ok (.invokevirtual 61, 3) := by decide +kernel
theorem dX2_readPlace_67 : decode cX2_readPlace 67 = .ok (.goto 60, 3) := by decide +kernel
theorem dX2_readPlace_70 : decode cX2_readPlace 70 = .ok (.aload_n 0, 1) := by decide +kernel
theorem dX2_readPlace_71 : decode cX2_readPlace 71 = .ok (.getfield 28, 3) := by decide +kernel
theorem dX2_readPlace_74 : decode cX2_readPlace 74 = .ok (.aload_n 0, 1) := by decide +kernel
theorem dX2_readPlace_75 : decode cX2_readPlace 75 = .ok (.getfield 58, 3) := by decide +kernel
theorem dX2_readPlace_78 : decode cX2_readPlace 78 = .ok (.isub, 1) := by decide +kernel
theorem dX2_readPlace_79 : decode cX2_readPlace 79 = .ok (.iconst 1, 1) := by decide +kernel
theorem dX2_readPlace_80 : decode cX2_readPlace 80 = .ok (.if_icmp .gt 20, 3) := by decide +kernel
theorem dX2_readPlace_83 : decode cX2_readPlace 83 = .ok (.aload_n 0, 1) := by decide +kernel
theorem dX2_readPlace_84 : decode cX2_readPlace 84 = .ok (.getfield 9, 3) := by decide +kernel
theorem dX2_readPlace_87 : decode cX2_readPlace 87 = .ok (.aload_n 0, 1) := by decide +kernel
theorem dX2_readPlace_88 : decode cX2_readPlace 88 = .ok (.getfield 58, 3) := by decide +kernel
theorem dX2_readPlace_91 : decode cX2_readPlace 91 = .ok (.iaload, 1) := by decide +kernel
theorem dX2_readPlace_92 : decode cX2_readPlace 92 = .ok (.bipush 48, 2) := by decide +kernel
theorem dX2_readPlace_94 : decode cX2_readPlace 94 = .ok (.isub, 1) := by decide +kernel
theorem dX2_readPlace_95 : decode cX2_readPlace 95 = .ok (.bipush 8, 2) := by decide +kernel
theorem dX2_readPlace_97 : decode cX2_readPlace 97 = .ok (.if_icmp .lt 11, 3) := by decide +kernel
theorem dX2_readPlace_100 : decode cX2_readPlace 100 = .ok (.aload_n 0, 1) := by decide +kernel
theorem dX2_readPlace_101 : decode cX2_readPlace 101 = .ok (.iconst 1, 1) := by decide +kernel
theorem dX2_readPlace_102 : decode cX2_readPlace 102 = .ok (.invokevirtual 61, 3) := by decide +kernel
theorem dX2_readPlace_105 : decode cX2_readPlace 105 = .ok (.goto 22, 3) := by decide +kernel
theorem dX2_readPlace_108 : decode cX2_readPlace 108 = .ok (.aload_n 0, 1) := by decide +kernel
theorem dX2_readPlace_109 : decode cX2_readPlace 109 = .ok (.bipush 16, 2) := by decide +kernel
theorem dX2_readPlace_111 : decode cX2_readPlace 111 = .ok (.aload_n 0, 1) := by decide +kernel
theorem dX2_readPlace_112 : decode cX2_readPlace 112 = .ok (.getfield 9, 3) := by decide +kernel
theorem dX2_readPlace_115 : decode cX2_readPlace 115 = .ok (.aload_n 0, 1) := by decide +kernel
theorem dX2_readPlace_116 : decode cX2_readPlace 116 = .ok (.getfield 58, 3) := by decide +kernel
theorem dX2_readPlace_119 : decode cX2_readPlace 119 = .ok (.iaload, 1) := by decide +kernel
theorem dX2_readPlace_120 : decode cX2_readPlace 120 = .ok (.iadd, 1) := by decide +kernel
theorem dX2_readPlace_121 : decode cX2_readPlace 121 = .ok (.bipush 48, 2) := by decide +kernel
theorem dX2_readPlace_123 : decode cX2_readPlace 123 = .ok (.isub, 1) := by decide +kernel
theorem dX2_readPlace_124 : decode cX2_readPlace 124 = .ok (.invokevirtual 82, 3) := by decide +kernel
theorem dX2_readPlace_127 : decode cX2_readPlace 127 = .ok (.return_, 1) := by decide +kernel
theorem dX2_countFact_0 : decode cX2_countFact 0 = .ok (.aload_n 0, 1) := by decide +kernel
theorem dX2_countFact_1 : decode cX2_countFact 1 = .ok (.dup, 1) := by decide +kernel
theorem dX2_countFact_2 : decode cX2_countFact 2 = .ok (.getfield 34, 3) := by decide +kernel
theorem dX2_countFact_5 : decode cX2_countFact 5 = .ok (.iconst 1, 1) := by decide +kernel
theorem dX2_countFact_6 : decode cX2_countFact 6 = .ok (.iadd, 1) := by decide +kernel
theorem dX2_countFact_7 : decode cX2_countFact 7 = .ok (.putfield 34, 3) := by decide +kernel
theorem dX2_countFact_10 : decode cX2_countFact 10 = .ok (.aload_n 0, 1) := by decide +kernel
theorem dX2_countFact_11 : decode cX2_countFact 11 = .ok (.getfield 34, 3) := by decide +kernel
theorem dX2_countFact_14 : decode cX2_countFact 14 = .ok (.bipush 30, 2) := by decide +kernel
theorem dX2_countFact_16 : decode cX2_countFact 16 = .ok (.if_icmp .le 8, 3) := by decide +kernel
theorem dX2_countFact_19 : decode cX2_countFact 19 = .ok (.aload_n 0, 1) := by decide +kernel
theorem dX2_countFact_20 : decode cX2_countFact 20 = .ok (.iconst 3, 1) := by decide +kernel
theorem dX2_countFact_21 : decode cX2_countFact 21 = .ok (.invokevirtual 61, 3) := by decide +kernel
theorem dX2_countFact_24 : decode cX2_countFact 24 = .ok (.return_, 1) := by decide +kernel
theorem dX2_put_0 : decode cX2_put 0 = .ok (.aload_n 0, 1) := by decide +kernel
theorem dX2_put_1 : decode cX2_put 1 = .ok (.getfield 31, 3) := by decide +kernel
theorem dX2_put_4 : decode cX2_put 4 = .ok (.ifCond .ne 33, 3) := by decide +kernel
theorem dX2_put_7 : decode cX2_put 7 = .ok (.aload_n 0, 1) := by decide +kernel
theorem dX2_put_8 : decode cX2_put 8 = .ok (.getfield 37, 3) := by decide +kernel
theorem dX2_put_11 : decode cX2_put 11 = .ok (.sipush 400, 3) := by decide +kernel
theorem dX2_put_14 : decode cX2_put 14 = .ok (.if_icmp .ge 23, 3) := by decide +kernel
theorem dX2_put_17 : decode cX2_put 17 = .ok (.aload_n 0, 1) := by decide +kernel
theorem dX2_put_18 : decode cX2_put 18 = .ok (.getfield 15, 3) := by decide +kernel
theorem dX2_put_21 : decode cX2_put 21 = .ok (.aload_n 0, 1) := by decide +kernel
theorem dX2_put_22 : decode cX2_put 22 = .ok (.getfield 37, 3) := by decide +kernel
theorem dX2_put_25 : decode cX2_put 25 = .ok (.iload_n 1, 1) := by decide +kernel
theorem dX2_put_26 : decode cX2_put 26 = .ok (.iastore, 1) := by decide +kernel
theorem dX2_put_27 : decode cX2_put 27 = .ok (.aload_n 0, 1) := by decide +kernel
theorem dX2_put_28 : decode cX2_put 28 = .ok (.dup, 1) := by decide +kernel
theorem dX2_put_29 : decode cX2_put 29 = .ok (.getfield 37, 3) := by decide +kernel
theorem dX2_put_32 : decode cX2_put 32 = .ok (.iconst 1, 1) := by decide +kernel
theorem dX2_put_33 : decode cX2_put 33 = .ok (.iadd, 1) := by decide +kernel
theorem dX2_put_34 : decode cX2_put 34 = .ok (.putfield 37, 3) := by decide +kernel
theorem dX2_put_37 : decode cX2_put 37 = .ok (.return_, 1) := by decide +kernel
theorem dX2_fail_0 : decode cX2_fail 0 = .ok (.aload_n 0, 1) := by decide +kernel
theorem dX2_fail_1 : decode cX2_fail 1 = .ok (.getfield 31, 3) := by decide +kernel
theorem dX2_fail_4 : decode cX2_fail 4 = .ok (.ifCond .ne 18, 3) := by decide +kernel
theorem dX2_fail_7 : decode cX2_fail 7 = .ok (.aload_n 0, 1) := by decide +kernel
theorem dX2_fail_8 : decode cX2_fail 8 = .ok (.iconst 1, 1) := by decide +kernel
theorem dX2_fail_9 : decode cX2_fail 9 = .ok (.bipush 8, 2) := by decide +kernel
theorem dX2_fail_11 : decode cX2_fail 11 = .ok (.aload_n 0, 1) := by decide +kernel
theorem dX2_fail_12 : decode cX2_fail 12 = .ok (.getfield 58, 3) := by decide +kernel
theorem dX2_fail_15 : decode cX2_fail 15 = .ok (.imul, 1) := by decide +kernel
theorem dX2_fail_16 : decode cX2_fail 16 = .ok (.iadd, 1) := by decide +kernel
theorem dX2_fail_17 : decode cX2_fail 17 = .ok (.iload_n 1, 1) := by decide +kernel
theorem dX2_fail_18 : decode cX2_fail 18 = .ok (.iadd, 1) := by decide +kernel
theorem dX2_fail_19 : decode cX2_fail 19 = .ok (.putfield 31, 3) := by decide +kernel
theorem dX2_fail_22 : decode cX2_fail 22 = .ok (.return_, 1) := by decide +kernel
theorem dX2_look_0 : decode cX2_look 0 = .ok (.aload_n 0, 1) := by decide +kernel
theorem dX2_look_1 : decode cX2_look 1 = .ok (.invokevirtual 98, 3) := by decide +kernel
theorem dX2_look_4 : decode cX2_look 4 = .ok (.aload_n 0, 1) := by decide +kernel
theorem dX2_look_5 : decode cX2_look 5 = .ok (.getfield 28, 3) := by decide +kernel
theorem dX2_look_8 : decode cX2_look 8 = .ok (.aload_n 0, 1) := by decide +kernel
theorem dX2_look_9 : decode cX2_look 9 = .ok (.getfield 24, 3) := by decide +kernel
theorem dX2_look_12 : decode cX2_look 12 = .ok (.if_icmp .lt 6, 3) := by decide +kernel
theorem dX2_look_15 : decode cX2_look 15 = .ok (.bipush 32, 2) := by decide +kernel
theorem dX2_look_17 : decode cX2_look 17 = .ok (.ireturn, 1) := by decide +kernel
theorem dX2_look_18 : decode cX2_look 18 = .ok (.aload_n 0, 1) := by decide +kernel
theorem dX2_look_19 : decode cX2_look 19 = .ok (.getfield 9, 3) := by decide +kernel
theorem dX2_look_22 : decode cX2_look 22 = .ok (.aload_n 0, 1) := by decide +kernel
theorem dX2_look_23 : decode cX2_look 23 = .ok (.getfield 28, 3) := by decide +kernel
theorem dX2_look_26 : decode cX2_look 26 = .ok (.iaload, 1) := by decide +kernel
theorem dX2_look_27 : decode cX2_look 27 = .ok (.istore_n 1, 1) := by decide +kernel
theorem dX2_look_28 : decode cX2_look 28 = .ok (.iload_n 1, 1) := by decide +kernel
theorem dX2_look_29 : decode cX2_look 29 = .ok (.invokestatic 105, 3) := by decide +kernel
theorem dX2_look_32 : decode cX2_look 32 = .ok (.ifCond .ne 38, 3) := by decide +kernel
theorem dX2_look_35 : decode cX2_look 35 = .ok (.aload_n 0, 1) := by decide +kernel
theorem dX2_look_36 : decode cX2_look 36 = .ok (.dup, 1) := by decide +kernel
theorem dX2_look_37 : decode cX2_look 37 = .ok (.getfield 28, 3) := by decide +kernel
theorem dX2_look_40 : decode cX2_look 40 = .ok (.iconst 1, 1) := by decide +kernel
theorem dX2_look_41 : decode cX2_look 41 = .ok (.iadd, 1) := by decide +kernel
theorem dX2_look_42 : decode cX2_look 42 = .ok (.putfield 28, 3) := by decide +kernel
theorem dX2_look_45 : decode cX2_look 45 = .ok (.iload_n 1, 1) := by decide +kernel
theorem dX2_look_46 : decode cX2_look 46 = .ok (.bipush 91, 2) := by decide +kernel
theorem dX2_look_48 : decode cX2_look 48 = .ok (.if_icmp .ne 8, 3) := by decide +kernel
theorem dX2_look_51 : decode cX2_look 51 = .ok (.bipush 28, 2) := by decide +kernel
theorem dX2_look_53 : decode cX2_look 53 = .ok (.goto 16, 3) := by decide +kernel
theorem dX2_look_56 : decode cX2_look 56 = .ok (.iload_n 1, 1) := by decide +kernel
theorem dX2_look_57 : decode cX2_look 57 = .ok (.bipush 93, 2) := by decide +kernel
theorem dX2_look_59 : decode cX2_look 59 = .ok (.if_icmp .ne 8, 3) := by decide +kernel
theorem dX2_look_62 : decode cX2_look 62 = .ok (.bipush 29, 2) := by decide +kernel
theorem dX2_look_64 : decode cX2_look 64 = .ok (.goto 5, 3) := by decide +kernel
theorem dX2_look_67 : decode cX2_look 67 = .ok (.bipush 32, 2) := by decide +kernel
theorem dX2_look_69 : decode cX2_look 69 = .ok (.ireturn, 1) := by decide +kernel
theorem dX2_look_70 : decode cX2_look 70 = .ok (.aload_n 0, 1) := by decide +kernel
theorem dX2_look_71 : decode cX2_look 71 = .ok (.getfield 28, 3) := by decide +kernel
theorem dX2_look_74 : decode cX2_look 74 = .ok (.aload_n 0, 1) := by decide +kernel
theorem dX2_look_75 : decode cX2_look 75 = .ok (.getfield 24, 3) := by decide +kernel
theorem dX2_look_78 : decode cX2_look 78 = .ok (.if_icmp .ge 31, 3) := by decide +kernel
theorem dX2_look_81 : decode cX2_look 81 = .ok (.aload_n 0, 1) := by decide +kernel
theorem dX2_look_82 : decode cX2_look 82 = .ok (.getfield 9, 3) := by decide +kernel
theorem dX2_look_85 : decode cX2_look 85 = .ok (.aload_n 0, 1) := by decide +kernel
theorem dX2_look_86 : decode cX2_look 86 = .ok (.getfield 28, 3) := by decide +kernel
theorem dX2_look_89 : decode cX2_look 89 = .ok (.iaload, 1) := by decide +kernel
theorem dX2_look_90 : decode cX2_look 90 = .ok (.invokestatic 105, 3) := by decide +kernel
theorem dX2_look_93 : decode cX2_look 93 = .ok (.ifCond .eq 16, 3) := by decide +kernel
theorem dX2_look_96 : decode cX2_look 96 = .ok (.aload_n 0, 1) := by decide +kernel
theorem dX2_look_97 : decode cX2_look 97 = .ok (.dup, 1) := by decide +kernel
theorem dX2_look_98 : decode cX2_look 98 = .ok (.getfield 28, 3) := by decide +kernel
theorem dX2_look_101 : decode cX2_look 101 = .ok (.iconst 1, 1) := by decide +kernel
theorem dX2_look_102 : decode cX2_look 102 = .ok (.iadd, 1) := by decide +kernel
theorem dX2_look_103 : decode cX2_look 103 = .ok (.putfield 28, 3) := by decide +kernel
theorem dX2_look_106 : decode cX2_look 106 = .ok (.goto (-36), 3) := by decide +kernel
theorem dX2_look_109 : decode cX2_look 109 = .ok (.aload_n 0, 1) := by decide +kernel
theorem dX2_look_110 : decode cX2_look 110 = .ok (.getfield 28, 3) := by decide +kernel
theorem dX2_look_113 : decode cX2_look 113 = .ok (.aload_n 0, 1) := by decide +kernel
theorem dX2_look_114 : decode cX2_look 114 = .ok (.getfield 58, 3) := by decide +kernel
theorem dX2_look_117 : decode cX2_look 117 = .ok (.isub, 1) := by decide +kernel
theorem dX2_look_118 : decode cX2_look 118 = .ok (.iconst 1, 1) := by decide +kernel
theorem dX2_look_119 : decode cX2_look 119 = .ok (.if_icmp .ne 10, 3) := by decide +kernel
theorem dX2_look_122 : decode cX2_look 122 = .ok (.iload_n 1, 1) := by decide +kernel
theorem dX2_look_123 : decode cX2_look 123 = .ok (.invokestatic 108, 3) := by decide +kernel
theorem dX2_look_126 : decode cX2_look 126 = .ok (.goto 7, 3) := by decide +kernel
theorem dX2_look_129 : decode cX2_look 129 = .ok (.aload_n 0, 1) := by decide +kernel
theorem dX2_look_130 : decode cX2_look 130 = .ok (.invokevirtual 112, 3) := by decide +kernel
theorem dX2_look_133 : decode cX2_look 133 = .ok (.ireturn, 1) := by decide +kernel
theorem dX2_leave_0 : decode cX2_leave 0 = .ok (.aload_n 0, 1) := by decide +kernel
theorem dX2_leave_1 : decode cX2_leave 1 = .ok (.aload_n 0, 1) := by decide +kernel
theorem dX2_leave_2 : decode cX2_leave 2 = .ok (.getfield 58, 3) := by decide +kernel
theorem dX2_leave_5 : decode cX2_leave 5 = .ok (.putfield 28, 3) := by decide +kernel
theorem dX2_leave_8 : decode cX2_leave 8 = .ok (.return_, 1) := by decide +kernel
theorem dX2_skipBlanks_0 : decode cX2_skipBlanks 0 = .ok (.aload_n 0, 1) := by decide +kernel
theorem dX2_skipBlanks_1 : decode cX2_skipBlanks 1 = .ok (.getfield 28, 3) := by decide +kernel
theorem dX2_skipBlanks_4 : decode cX2_skipBlanks 4 = .ok (.aload_n 0, 1) := by decide +kernel
theorem dX2_skipBlanks_5 : decode cX2_skipBlanks 5 = .ok (.getfield 24, 3) := by decide +kernel
theorem dX2_skipBlanks_8 : decode cX2_skipBlanks 8 = .ok (.if_icmp .ge 30, 3) := by decide +kernel
theorem dX2_skipBlanks_11 : decode cX2_skipBlanks 11 = .ok (.aload_n 0, 1) := by decide +kernel
theorem dX2_skipBlanks_12 : decode cX2_skipBlanks 12 = .ok (.getfield 9, 3) := by decide +kernel
theorem dX2_skipBlanks_15 : decode cX2_skipBlanks 15 = .ok (.aload_n 0, 1) := by decide +kernel
theorem dX2_skipBlanks_16 : decode cX2_skipBlanks 16 = .ok (.getfield 28, 3) := by decide +kernel
theorem dX2_skipBlanks_19 : decode cX2_skipBlanks 19 = .ok (.iaload, 1) := by decide +kernel
theorem dX2_skipBlanks_20 : decode cX2_skipBlanks 20 = .ok (.bipush 32, 2) := by decide +kernel
theorem dX2_skipBlanks_22 : decode cX2_skipBlanks 22 = .ok (.if_icmp .ne 16, 3) := by decide +kernel
theorem dX2_skipBlanks_25 : decode cX2_skipBlanks 25 = .ok (.aload_n 0, 1) := by decide +kernel
theorem dX2_skipBlanks_26 : decode cX2_skipBlanks 26 = .ok (.dup, 1) := by decide +kernel
theorem dX2_skipBlanks_27 : decode cX2_skipBlanks 27 = .ok (.getfield 28, 3) := by decide +kernel
theorem dX2_skipBlanks_30 : decode cX2_skipBlanks 30 = .ok (.iconst 1, 1) := by decide +kernel
theorem dX2_skipBlanks_31 : decode cX2_skipBlanks 31 = .ok (.iadd, 1) := by decide +kernel
theorem dX2_skipBlanks_32 : decode cX2_skipBlanks 32 = .ok (.putfield 28, 3) := by decide +kernel
theorem dX2_skipBlanks_35 : decode cX2_skipBlanks 35 = .ok (.goto (-35), 3) := by decide +kernel
theorem dX2_skipBlanks_38 : decode cX2_skipBlanks 38 = .ok (.aload_n 0, 1) := by decide +kernel
theorem dX2_skipBlanks_39 : decode cX2_skipBlanks 39 = .ok (.aload_n 0, 1) := by decide +kernel
theorem dX2_skipBlanks_40 : decode cX2_skipBlanks 40 = .ok (.getfield 28, 3) := by decide +kernel
theorem dX2_skipBlanks_43 : decode cX2_skipBlanks 43 = .ok (.putfield 58, 3) := by decide +kernel
theorem dX2_skipBlanks_46 : decode cX2_skipBlanks 46 = .ok (.return_, 1) := by decide +kernel
theorem dX2_letterSign_0 : decode cX2_letterSign 0 = .ok (.iload_n 0, 1) := by decide +kernel
theorem dX2_letterSign_1 : decode cX2_letterSign 1 = .ok (.bipush 106, 2) := by decide +kernel
theorem dX2_letterSign_3 : decode cX2_letterSign 3 = .ok (.if_icmp .gt 8, 3) := by decide +kernel
theorem dX2_letterSign_6 : decode cX2_letterSign 6 = .ok (.iload_n 0, 1) := by decide +kernel
theorem dX2_letterSign_7 : decode cX2_letterSign 7 = .ok (.bipush 97, 2) := by decide +kernel
theorem dX2_letterSign_9 : decode cX2_letterSign 9 = .ok (.isub, 1) := by decide +kernel
theorem dX2_letterSign_10 : decode cX2_letterSign 10 = .ok (.ireturn, 1) := by decide +kernel
theorem dX2_letterSign_11 : decode cX2_letterSign 11 = .ok (.iload_n 0, 1) := by decide +kernel
theorem dX2_letterSign_12 : decode cX2_letterSign 12 = .ok (.bipush 117, 2) := by decide +kernel
theorem dX2_letterSign_14 : decode cX2_letterSign 14 = .ok (.if_icmp .lt 13, 3) := by decide +kernel
theorem dX2_letterSign_17 : decode cX2_letterSign 17 = .ok (.bipush 10, 2) := by decide +kernel
theorem dX2_letterSign_19 : decode cX2_letterSign 19 = .ok (.iload_n 0, 1) := by decide +kernel
theorem dX2_letterSign_20 : decode cX2_letterSign 20 = .ok (.iadd, 1) := by decide +kernel
theorem dX2_letterSign_21 : decode cX2_letterSign 21 = .ok (.bipush 117, 2) := by decide +kernel
theorem dX2_letterSign_23 : decode cX2_letterSign 23 = .ok (.isub, 1) := by decide +kernel
theorem dX2_letterSign_24 : decode cX2_letterSign 24 = .ok (.goto 5, 3) := by decide +kernel
theorem dX2_letterSign_27 : decode cX2_letterSign 27 = .ok (.bipush 32, 2) := by decide +kernel
theorem dX2_letterSign_29 : decode cX2_letterSign 29 = .ok (.ireturn, 1) := by decide +kernel
theorem dX2_wordSign_0 : decode cX2_wordSign 0 = .ok (.aload_n 0, 1) := by decide +kernel
theorem dX2_wordSign_1 : decode cX2_wordSign 1 = .ok (.ldc 115, 2) := by decide +kernel
theorem dX2_wordSign_3 : decode cX2_wordSign 3 = .ok (.invokevirtual 117, 3) := by decide +kernel
theorem dX2_wordSign_6 : decode cX2_wordSign 6 = .ok (.ifCond .eq 6, 3) := by decide +kernel
theorem dX2_wordSign_9 : decode cX2_wordSign 9 = .ok (.bipush 16, 2) := by decide +kernel
theorem dX2_wordSign_11 : decode cX2_wordSign 11 = .ok (.ireturn, 1) := by decide +kernel
theorem dX2_wordSign_12 : decode cX2_wordSign 12 = .ok (.aload_n 0, 1) := by decide +kernel
theorem dX2_wordSign_13 : decode cX2_wordSign 13 = .ok (.ldc 121, 2) := by decide +kernel
theorem dX2_wordSign_15 : decode cX2_wordSign 15 = .ok (.invokevirtual 117, 3) := by decide +kernel
theorem dX2_wordSign_18 : decode cX2_wordSign 18 = .ok (.ifCond .eq 6, 3) := by decide +kernel
theorem dX2_wordSign_21 : decode cX2_wordSign 21 = .ok (.bipush 24, 2) := by decide +kernel
theorem dX2_wordSign_23 : decode cX2_wordSign 23 = .ok (.ireturn, 1) := by decide +kernel
theorem dX2_wordSign_24 : decode cX2_wordSign 24 = .ok (.aload_n 0, 1) := by decide +kernel
theorem dX2_wordSign_25 : decode cX2_wordSign 25 = .ok (.ldc 123, 2) := by decide +kernel
theorem dX2_wordSign_27 : decode cX2_wordSign 27 = .ok (.invokevirtual 117, 3) := by decide +kernel
theorem dX2_wordSign_30 : decode cX2_wordSign 30 = .ok (.ifCond .eq 6, 3) := by decide +kernel
theorem dX2_wordSign_33 : decode cX2_wordSign 33 = .ok (.bipush 25, 2) := by decide +kernel
theorem dX2_wordSign_35 : decode cX2_wordSign 35 = .ok (.ireturn, 1) := by decide +kernel
theorem dX2_wordSign_36 : decode cX2_wordSign 36 = .ok (.aload_n 0, 1) := by decide +kernel
theorem dX2_wordSign_37 : decode cX2_wordSign 37 = .ok (.ldc 125, 2) := by decide +kernel
theorem dX2_wordSign_39 : decode cX2_wordSign 39 = .ok (.invokevirtual 117, 3) := by decide +kernel
theorem dX2_wordSign_42 : decode cX2_wordSign 42 = .ok (.ifCond .eq 6, 3) := by decide +kernel
theorem dX2_wordSign_45 : decode cX2_wordSign 45 = .ok (.bipush 26, 2) := by decide +kernel
theorem dX2_wordSign_47 : decode cX2_wordSign 47 = .ok (.ireturn, 1) := by decide +kernel
theorem dX2_wordSign_48 : decode cX2_wordSign 48 = .ok (.aload_n 0, 1) := by decide +kernel
theorem dX2_wordSign_49 : decode cX2_wordSign 49 = .ok (.ldc 127, 2) := by decide +kernel
theorem dX2_wordSign_51 : decode cX2_wordSign 51 = .ok (.invokevirtual 117, 3) := by decide +kernel
theorem dX2_wordSign_54 : decode cX2_wordSign 54 = .ok (.ifCond .eq 6, 3) := by decide +kernel
theorem dX2_wordSign_57 : decode cX2_wordSign 57 = .ok (.bipush 27, 2) := by decide +kernel
theorem dX2_wordSign_59 : decode cX2_wordSign 59 = .ok (.ireturn, 1) := by decide +kernel
theorem dX2_wordSign_60 : decode cX2_wordSign 60 = .ok (.aload_n 0, 1) := by decide +kernel
theorem dX2_wordSign_61 : decode cX2_wordSign 61 = .ok (.ldc 129, 2) := by decide +kernel
theorem dX2_wordSign_63 : decode cX2_wordSign 63 = .ok (.invokevirtual 117, 3) := by decide +kernel
theorem dX2_wordSign_66 : decode cX2_wordSign 66 = .ok (.ifCond .eq 6, 3) := by decide +kernel
theorem dX2_wordSign_69 : decode cX2_wordSign 69 = .ok (.bipush 30, 2) := by decide +kernel
theorem dX2_wordSign_71 : decode cX2_wordSign 71 = .ok (.ireturn, 1) := by decide +kernel
theorem dX2_wordSign_72 : decode cX2_wordSign 72 = .ok (.aload_n 0, 1) := by decide +kernel
theorem dX2_wordSign_73 : decode cX2_wordSign 73 = .ok (.ldc 130, 2) := by decide +kernel
theorem dX2_wordSign_75 : decode cX2_wordSign 75 = .ok (.invokevirtual 117, 3) := by decide +kernel
theorem dX2_wordSign_78 : decode cX2_wordSign 78 = .ok (.ifCond .eq 8, 3) := by decide +kernel
theorem dX2_wordSign_81 : decode cX2_wordSign 81 = .ok (.bipush 31, 2) := by decide +kernel
theorem dX2_wordSign_83 : decode cX2_wordSign 83 = .ok (.goto 5, 3) := by decide +kernel
theorem dX2_wordSign_86 : decode cX2_wordSign 86 = .ok (.bipush 32, 2) := by decide +kernel
theorem dX2_wordSign_88 : decode cX2_wordSign 88 = .ok (.ireturn, 1) := by decide +kernel
theorem dX2_spells_0 : decode cX2_spells 0 = .ok (.aload_n 1, 1) := by decide +kernel
theorem dX2_spells_1 : decode cX2_spells 1 = .ok (.invokevirtual 131, 3) := by decide +kernel
theorem dX2_spells_4 : decode cX2_spells 4 = .ok (.aload_n 0, 1) := by decide +kernel
theorem dX2_spells_5 : decode cX2_spells 5 = .ok (.getfield 28, 3) := by decide +kernel
theorem dX2_spells_8 : decode cX2_spells 8 = .ok (.aload_n 0, 1) := by decide +kernel
theorem dX2_spells_9 : decode cX2_spells 9 = .ok (.getfield 58, 3) := by decide +kernel
theorem dX2_spells_12 : decode cX2_spells 12 = .ok (.isub, 1) := by decide +kernel
theorem dX2_spells_13 : decode cX2_spells 13 = .ok (.if_icmp .eq 5, 3) := by decide +kernel
theorem dX2_spells_16 : decode cX2_spells 16 = .ok (.iconst 0, 1) := by decide +kernel
theorem dX2_spells_17 : decode cX2_spells 17 = .ok (.ireturn, 1) := by decide +kernel
theorem dX2_spells_18 : decode cX2_spells 18 = .ok (.iconst 0, 1) := by decide +kernel
theorem dX2_spells_19 : decode cX2_spells 19 = .ok (.istore_n 2, 1) := by decide +kernel
theorem dX2_spells_20 : decode cX2_spells 20 = .ok (.iload_n 2, 1) := by decide +kernel
theorem dX2_spells_21 : decode cX2_spells 21 = .ok (.aload_n 1, 1) := by decide +kernel
theorem dX2_spells_22 : decode cX2_spells 22 = .ok (.invokevirtual 131, 3) := by decide +kernel
theorem dX2_spells_25 : decode cX2_spells 25 = .ok (.if_icmp .ge 30, 3) := by decide +kernel
theorem dX2_spells_28 : decode cX2_spells 28 = .ok (.aload_n 0, 1) := by decide +kernel
theorem dX2_spells_29 : decode cX2_spells 29 = .ok (.getfield 9, 3) := by decide +kernel
theorem dX2_spells_32 : decode cX2_spells 32 = .ok (.aload_n 0, 1) := by decide +kernel
theorem dX2_spells_33 : decode cX2_spells 33 = .ok (.getfield 58, 3) := by decide +kernel
theorem dX2_spells_36 : decode cX2_spells 36 = .ok (.iload_n 2, 1) := by decide +kernel
theorem dX2_spells_37 : decode cX2_spells 37 = .ok (.iadd, 1) := by decide +kernel
theorem dX2_spells_38 : decode cX2_spells 38 = .ok (.iaload, 1) := by decide +kernel
theorem dX2_spells_39 : decode cX2_spells 39 = .ok (.aload_n 1, 1) := by decide +kernel
theorem dX2_spells_40 : decode cX2_spells 40 = .ok (.iload_n 2, 1) := by decide +kernel
theorem dX2_spells_41 : decode cX2_spells 41 = .ok (.invokevirtual 135, 3) := by decide +kernel
theorem dX2_spells_44 : decode cX2_spells 44 = .ok (.if_icmp .eq 5, 3) := by decide +kernel
theorem dX2_spells_47 : decode cX2_spells 47 = .ok (.iconst 0, 1) := by decide +kernel
theorem dX2_spells_48 : decode cX2_spells 48 = .ok (.ireturn, 1) := by decide +kernel
theorem dX2_spells_49 : decode cX2_spells 49 = .ok (.iinc 2 1, 3) := by decide +kernel
theorem dX2_spells_52 : decode cX2_spells 52 = .ok (.goto (-32), 3) := by decide +kernel
theorem dX2_spells_55 : decode cX2_spells 55 = .ok (.iconst 1, 1) := by decide +kernel
theorem dX2_spells_56 : decode cX2_spells 56 = .ok (.ireturn, 1) := by decide +kernel
theorem dX2_isSmall_0 : decode cX2_isSmall 0 = .ok (.iload_n 0, 1) := by decide +kernel
theorem dX2_isSmall_1 : decode cX2_isSmall 1 = .ok (.bipush 97, 2) := by decide +kernel
theorem dX2_isSmall_3 : decode cX2_isSmall 3 = .ok (.if_icmp .lt 13, 3) := by decide +kernel
theorem dX2_isSmall_6 : decode cX2_isSmall 6 = .ok (.iload_n 0, 1) := by decide +kernel
theorem dX2_isSmall_7 : decode cX2_isSmall 7 = .ok (.bipush 122, 2) := by decide +kernel
theorem dX2_isSmall_9 : decode cX2_isSmall 9 = .ok (.if_icmp .gt 7, 3) := by decide +kernel
theorem dX2_isSmall_12 : decode cX2_isSmall 12 = .ok (.iconst 1, 1) := by decide +kernel
theorem dX2_isSmall_13 : decode cX2_isSmall 13 = .ok (.goto 4, 3) := by decide +kernel
theorem dX2_isSmall_16 : decode cX2_isSmall 16 = .ok (.iconst 0, 1) := by decide +kernel
theorem dX2_isSmall_17 : decode cX2_isSmall 17 = .ok (.ireturn, 1) := by decide +kernel
theorem dX2_isDigit_0 : decode cX2_isDigit 0 = .ok (.iload_n 0, 1) := by decide +kernel
theorem dX2_isDigit_1 : decode cX2_isDigit 1 = .ok (.bipush 48, 2) := by decide +kernel
theorem dX2_isDigit_3 : decode cX2_isDigit 3 = .ok (.if_icmp .lt 13, 3) := by decide +kernel
theorem dX2_isDigit_6 : decode cX2_isDigit 6 = .ok (.iload_n 0, 1) := by decide +kernel
theorem dX2_isDigit_7 : decode cX2_isDigit 7 = .ok (.bipush 57, 2) := by decide +kernel
theorem dX2_isDigit_9 : decode cX2_isDigit 9 = .ok (.if_icmp .gt 7, 3) := by decide +kernel
theorem dX2_isDigit_12 : decode cX2_isDigit 12 = .ok (.iconst 1, 1) := by decide +kernel
theorem dX2_isDigit_13 : decode cX2_isDigit 13 = .ok (.goto 4, 3) := by decide +kernel
theorem dX2_isDigit_16 : decode cX2_isDigit 16 = .ok (.iconst 0, 1) := by decide +kernel
theorem dX2_isDigit_17 : decode cX2_isDigit 17 = .ok (.ireturn, 1) := by decide +kernel
theorem dX3_init_0 : decode cX3_init 0 = .ok (.aload_n 0, 1) := by decide +kernel
theorem dX3_init_1 : decode cX3_init 1 = .ok (.invokespecial 3, 3) := by decide +kernel
theorem dX3_init_4 : decode cX3_init 4 = .ok (.aload_n 0, 1) := by decide +kernel
theorem dX3_init_5 : decode cX3_init 5 = .ok (.sipush 401, 3) := by decide +kernel
theorem dX3_init_8 : decode cX3_init 8 = .ok (.newarray .int, 2) := by decide +kernel
theorem dX3_init_10 : decode cX3_init 10 = .ok (.putfield 9, 3) := by decide +kernel
theorem dX3_init_13 : decode cX3_init 13 = .ok (.aload_n 0, 1) := by decide +kernel
theorem dX3_init_14 : decode cX3_init 14 = .ok (.sipush 1024, 3) := by decide +kernel
theorem dX3_init_17 : decode cX3_init 17 = .ok (.newarray .int, 2) := by decide +kernel
theorem dX3_init_19 : decode cX3_init 19 = .ok (.putfield 15, 3) := by decide +kernel
theorem dX3_init_22 : decode cX3_init 22 = .ok (.aload_n 0, 1) := by decide +kernel
theorem dX3_init_23 : decode cX3_init 23 = .ok (.sipush 1024, 3) := by decide +kernel
theorem dX3_init_26 : decode cX3_init 26 = .ok (.newarray .int, 2) := by decide +kernel
theorem dX3_init_28 : decode cX3_init 28 = .ok (.putfield 18, 3) := by decide +kernel
theorem dX3_init_31 : decode cX3_init 31 = .ok (.return_, 1) := by decide +kernel
theorem dX3_forget_0 : decode cX3_forget 0 = .ok (.aload_n 0, 1) := by decide +kernel
theorem dX3_forget_1 : decode cX3_forget 1 = .ok (.getfield 21, 3) := by decide +kernel
theorem dX3_forget_4 : decode cX3_forget 4 = .ok (.ifCond .eq 16, 3) := by decide +kernel
theorem dX3_forget_7 : decode cX3_forget 7 = .ok (.aload_n 0, 1) := by decide +kernel
theorem dX3_forget_8 : decode cX3_forget 8 = .ok (.getfield 15, 3) := by decide +kernel
theorem dX3_forget_11 : decode cX3_forget 11 = .ok (.iconst 0, 1) := by decide +kernel
theorem dX3_forget_12 : decode cX3_forget 12 = .ok (.invokestatic 25, 3) := by decide +kernel
theorem dX3_forget_15 : decode cX3_forget 15 = .ok (.aload_n 0, 1) := by decide +kernel
theorem dX3_forget_16 : decode cX3_forget 16 = .ok (.iconst 0, 1) := by decide +kernel
theorem dX3_forget_17 : decode cX3_forget 17 = .ok (.putfield 21, 3) := by decide +kernel
theorem dX3_forget_20 : decode cX3_forget 20 = .ok (.return_, 1) := by decide +kernel
theorem dX3_fit_0 : decode cX3_fit 0 = .ok (.aload_n 1, 1) := by decide +kernel
theorem dX3_fit_1 : decode cX3_fit 1 = .ok (.getfield 31, 3) := by decide +kernel
theorem dX3_fit_4 : decode cX3_fit 4 = .ok (.iconst 4, 1) := by decide +kernel
theorem dX3_fit_5 : decode cX3_fit 5 = .ok (.ishl, 1) := by decide +kernel
theorem dX3_fit_6 : decode cX3_fit 6 = .ok (.iload_n 2, 1) := by decide +kernel
theorem dX3_fit_7 : decode cX3_fit 7 = .ok (.ior, 1) := by decide +kernel
theorem dX3_fit_8 : decode cX3_fit 8 = .ok (.bipush 6, 2) := by decide +kernel
theorem dX3_fit_10 : decode cX3_fit 10 = .ok (.ishl, 1) := by decide +kernel
theorem dX3_fit_11 : decode cX3_fit 11 = .ok (.aload_n 3, 1) := by decide +kernel
theorem dX3_fit_12 : decode cX3_fit 12 = .ok (.getfield 37, 3) := by decide +kernel
theorem dX3_fit_15 : decode cX3_fit 15 = .ok (.ior, 1) := by decide +kernel
theorem dX3_fit_16 : decode cX3_fit 16 = .ok (.istore 5, 2) := by decide +kernel
theorem dX3_fit_18 : decode cX3_fit 18 = .ok (.iload 5, 2) := by decide +kernel
theorem dX3_fit_20 : decode cX3_fit 20 = .ok (.bipush 12, 2) := by decide +kernel
theorem dX3_fit_22 : decode cX3_fit 22 = .ok (.ishl, 1) := by decide +kernel
theorem dX3_fit_23 : decode cX3_fit 23 = .ok (.iload 4, 2) := by decide +kernel
theorem dX3_fit_25 : decode cX3_fit 25 = .ok (.ior, 1) := by decide +kernel
theorem dX3_fit_26 : decode cX3_fit 26 = .ok (.iconst 1, 1) := by decide +kernel
theorem dX3_fit_27 : decode cX3_fit 27 = .ok (.iadd, 1) := by decide +kernel
theorem dX3_fit_28 : decode cX3_fit 28 = .ok (.istore 6, 2) := by decide +kernel
theorem dX3_fit_30 : decode cX3_fit 30 = .ok (.iload 6, 2) := by decide +kernel
theorem dX3_fit_32 : decode cX3_fit 32 = .ok (.ldc 42, 2) := by decide +kernel
theorem dX3_fit_34 : decode cX3_fit 34 = .ok (.imul, 1) := by decide +kernel
theorem dX3_fit_35 : decode cX3_fit 35 = .ok (.bipush 22, 2) := by decide +kernel
theorem dX3_fit_37 : decode cX3_fit 37 = .ok (.iushr, 1) := by decide +kernel
theorem dX3_fit_38 : decode cX3_fit 38 = .ok (.istore 7, 2) := by decide +kernel
theorem dX3_fit_40 : decode cX3_fit 40 = .ok (.aload_n 0, 1) := by decide +kernel
theorem dX3_fit_41 : decode cX3_fit 41 = .ok (.getfield 15, 3) := by decide +kernel
theorem dX3_fit_44 : decode cX3_fit 44 = .ok (.iload 7, 2) := by decide +kernel
theorem dX3_fit_46 : decode cX3_fit 46 = .ok (.iaload, 1) := by decide +kernel
theorem dX3_fit_47 : decode cX3_fit 47 = .ok (.iload 6, 2) := by decide +kernel
theorem dX3_fit_49 : decode cX3_fit 49 = .ok (.if_icmp .eq 33, 3) := by decide +kernel
theorem dX3_fit_52 : decode cX3_fit 52 = .ok (.aload_n 0, 1) := by decide +kernel
theorem dX3_fit_53 : decode cX3_fit 53 = .ok (.getfield 18, 3) := by decide +kernel
theorem dX3_fit_56 : decode cX3_fit 56 = .ok (.iload 7, 2) := by decide +kernel
theorem dX3_fit_58 : decode cX3_fit 58 = .ok (.aload_n 0, 1) := by decide +kernel
theorem dX3_fit_59 : decode cX3_fit 59 = .ok (.aload_n 1, 1) := by decide +kernel
theorem dX3_fit_60 : decode cX3_fit 60 = .ok (.iload_n 2, 1) := by decide +kernel
theorem dX3_fit_61 : decode cX3_fit 61 = .ok (.aload_n 3, 1) := by decide +kernel
theorem dX3_fit_62 : decode cX3_fit 62 = .ok (.iload 4, 2) := by decide +kernel
theorem dX3_fit_64 : decode cX3_fit 64 = .ok (.invokevirtual 43, 3) := by decide +kernel
theorem dX3_fit_67 : decode cX3_fit 67 = .ok (.iastore, 1) := by decide +kernel
theorem dX3_fit_68 : decode cX3_fit 68 = .ok (.aload_n 0, 1) := by decide +kernel
theorem dX3_fit_69 : decode cX3_fit 69 = .ok (.getfield 15, 3) := by decide +kernel
theorem dX3_fit_72 : decode cX3_fit 72 = .ok (.iload 7, 2) := by decide +kernel
theorem dX3_fit_74 : decode cX3_fit 74 = .ok (.iload 6, 2) := by decide +kernel
theorem dX3_fit_76 : decode cX3_fit 76 = .ok (.iastore, 1) := by decide +kernel
theorem dX3_fit_77 : decode cX3_fit 77 = .ok (.aload_n 0, 1) := by decide +kernel
theorem dX3_fit_78 : decode cX3_fit 78 = .ok (.iconst 1, 1) := by decide +kernel
theorem dX3_fit_79 : decode cX3_fit 79 = .ok (.putfield 21, 3) := by decide +kernel
theorem dX3_fit_82 : decode cX3_fit 82 = .ok (.aload_n 0, 1) := by decide +kernel
theorem dX3_fit_83 : decode cX3_fit 83 = .ok (.getfield 18, 3) := by decide +kernel
theorem dX3_fit_86 : decode cX3_fit 86 = .ok (.iload 7, 2) := by decide +kernel
theorem dX3_fit_88 : decode cX3_fit 88 = .ok (.iaload, 1) := by decide +kernel
theorem dX3_fit_89 : decode cX3_fit 89 = .ok (.istore 8, 2) := by decide +kernel
theorem dX3_fit_91 : decode cX3_fit 91 = .ok (.aload_n 1, 1) := by decide +kernel
theorem dX3_fit_92 : decode cX3_fit 92 = .ok (.getfield 47, 3) := by decide +kernel
theorem dX3_fit_95 : decode cX3_fit 95 = .ok (.ifCond .eq 16, 3) := by decide +kernel
theorem dX3_fit_98 : decode cX3_fit 98 = .ok (.iload 8, 2) := by decide +kernel
theorem dX3_fit_100 : decode cX3_fit 100 = .ok (.invokestatic 50, 3) := by decide +kernel
theorem dX3_fit_103 : decode cX3_fit 103 = .ok (.iconst 1, 1) := by decide +kernel
theorem dX3_fit_104 : decode cX3_fit 104 = .ok (.if_icmp .le 7, 3) := by decide +kernel
theorem dX3_fit_107 : decode cX3_fit 107 = .ok (.iconst 0, 1) := by decide +kernel
theorem dX3_fit_108 : decode cX3_fit 108 = .ok (.goto 5, 3) := by decide +kernel
theorem dX3_fit_111 : decode cX3_fit 111 = .ok (.iload 8, 2) := by decide +kernel
theorem dX3_fit_113 : decode cX3_fit 113 = .ok (.ireturn, 1) := by decide +kernel
theorem dX3_evaluate_0 : decode cX3_evaluate 0 = .ok (.iconst 0, 1) := by decide +kernel
theorem dX3_evaluate_1 : decode cX3_evaluate 1 = .ok (.istore 5, 2) := by decide +kernel
theorem dX3_evaluate_3 : decode cX3_evaluate 3 = .ok (.iconst 0, 1) := by decide +kernel
theorem dX3_evaluate_4 : decode cX3_evaluate 4 = .ok (.istore 6, 2) := by decide +kernel
theorem dX3_evaluate_6 : decode cX3_evaluate 6 = .ok (.iload 6, 2) := by decide +kernel
theorem dX3_evaluate_8 : decode cX3_evaluate 8 = .ok (.aload_n 1, 1) := by decide +kernel
theorem dX3_evaluate_9 : decode cX3_evaluate 9 = .ok (.getfield 56, 3) := by decide +kernel
theorem dX3_evaluate_12 : decode cX3_evaluate 12 = .ok (.arraylength, 1) := by decide +kernel
theorem dX3_evaluate_13 : decode cX3_evaluate 13 = .ok (.if_icmp .ge 287, 3) := by decide +kernel
theorem dX3_evaluate_16 : decode cX3_evaluate 16 = .ok (.iload 5, 2) := by decide +kernel
theorem dX3_evaluate_18 : decode cX3_evaluate 18 = .ok (.sipush 400, 3) := by decide +kernel
theorem dX3_evaluate_21 : decode cX3_evaluate 21 = .ok (.if_icmp .ge 279, 3) := by decide +kernel
theorem dX3_evaluate_24 : decode cX3_evaluate 24 = .ok (.aload_n 1, 1) := by decide +kernel
theorem dX3_evaluate_25 : decode cX3_evaluate 25 = .ok (.getfield 56, 3) := by decide +kernel
theorem dX3_evaluate_28 : decode cX3_evaluate 28 = .ok (.iload 6, 2) := by decide +kernel
theorem dX3_evaluate_30 : decode cX3_evaluate 30 = .ok (.iaload, 1) := by decide +kernel
theorem dX3_evaluate_31 : decode cX3_evaluate 31 = .ok (.istore 7, 2) := by decide +kernel
theorem dX3_evaluate_33 : decode cX3_evaluate 33 = .ok (.iload 7, 2) := by decide +kernel
theorem dX3_evaluate_35 : decode cX3_evaluate 35 = .ok (.bipush 10, 2) := by decide +kernel
theorem dX3_evaluate_37 : decode cX3_evaluate 37 = .ok (.if_icmp .ge 26, 3) := by decide +kernel
theorem dX3_evaluate_40 : decode cX3_evaluate 40 = .ok (.iinc 5 1, 3) := by decide +kernel
theorem dX3_evaluate_43 : decode cX3_evaluate 43 = .ok (.aload_n 0, 1) := by decide +kernel
theorem dX3_evaluate_44 : decode cX3_evaluate 44 = .ok (.getfield 9, 3) := by decide +kernel
theorem dX3_evaluate_47 : decode cX3_evaluate 47 = .ok (.iload 5, 2) := by decide +kernel
theorem dX3_evaluate_49 : decode cX3_evaluate 49 = .ok (.aload_n 3, 1) := by decide +kernel
theorem dX3_evaluate_50 : decode cX3_evaluate 50 = .ok (.getfield 59, 3) := by decide +kernel
theorem dX3_evaluate_53 : decode cX3_evaluate 53 = .ok (.iload 7, 2) := by decide +kernel
theorem dX3_evaluate_55 : decode cX3_evaluate 55 = .ok (.iaload, 1) := by decide +kernel
theorem dX3_evaluate_56 : decode cX3_evaluate 56 = .ok (.iload 4, 2) := by decide +kernel
theorem dX3_evaluate_58 : decode cX3_evaluate 58 = .ok (.iand, 1) := by decide +kernel
theorem dX3_evaluate_59 : decode cX3_evaluate 59 = .ok (.iastore, 1) := by decide +kernel
theorem dX3_evaluate_60 : decode cX3_evaluate 60 = .ok (.goto 234, 3) := by decide +kernel
theorem dX3_evaluate_63 : decode cX3_evaluate 63 = .ok (.iload 7, 2) := by decide +kernel
theorem dX3_evaluate_65 : decode cX3_evaluate 65 = .ok (.bipush 16, 2) := by decide +kernel
theorem dX3_evaluate_67 : decode cX3_evaluate 67 = .ok (.if_icmp .ge 82, 3) := by decide +kernel
theorem dX3_evaluate_70 : decode cX3_evaluate 70 = .ok (.aload_n 0, 1) := by decide +kernel
theorem dX3_evaluate_71 : decode cX3_evaluate 71 = .ok (.getfield 9, 3) := by decide +kernel
theorem dX3_evaluate_74 : decode cX3_evaluate 74 = .ok (.iload 5, 2) := by decide +kernel
theorem dX3_evaluate_76 : decode cX3_evaluate 76 = .ok (.iaload, 1) := by decide +kernel
theorem dX3_evaluate_77 : decode cX3_evaluate 77 = .ok (.istore 8, 2) := by decide +kernel
theorem dX3_evaluate_79 : decode cX3_evaluate 79 = .ok (.iload 7, 2) := by decide +kernel
theorem dX3_evaluate_81 : decode cX3_evaluate 81 = .ok (.bipush 10, 2) := by decide +kernel
theorem dX3_evaluate_83 : decode cX3_evaluate 83 = .ok (.isub, 1) := by decide +kernel
theorem dX3_evaluate_84 : decode cX3_evaluate 84 = .ok (.bipush 12, 2) := by decide +kernel
theorem dX3_evaluate_86 : decode cX3_evaluate 86 = .ok (.imul, 1) := by decide +kernel
theorem dX3_evaluate_87 : decode cX3_evaluate 87 = .ok (.istore 9, 2) := by decide +kernel
theorem dX3_evaluate_89 : decode cX3_evaluate 89 = .ok (.aload_n 0, 1) := by decide +kernel
theorem dX3_evaluate_90 : decode cX3_evaluate 90 = .ok (.getfield 9, 3) := by decide +kernel
theorem dX3_evaluate_93 : decode cX3_evaluate 93 = .ok (.iload 5, 2) := by decide +kernel
theorem dX3_evaluate_95 : decode cX3_evaluate 95 = .ok (.iconst 0, 1) := by decide +kernel
theorem dX3_evaluate_96 : decode cX3_evaluate 96 = .ok (.iastore, 1) := by decide +kernel
theorem dX3_evaluate_97 : decode cX3_evaluate 97 = .ok (.iconst 0, 1) := by decide +kernel
theorem dX3_evaluate_98 : decode cX3_evaluate 98 = .ok (.istore 10, 2) := by decide +kernel
theorem dX3_evaluate_100 : decode cX3_evaluate 100 = .ok (.iload 10, 2) := by decide +kernel
theorem dX3_evaluate_102 : decode cX3_evaluate 102 = .ok (.bipush 12, 2) := by decide +kernel
theorem dX3_evaluate_104 : decode cX3_evaluate 104 = .ok (.if_icmp .ge 42, 3) := by decide +kernel
theorem dX3_evaluate_107 : decode cX3_evaluate 107 = .ok (.aload_n 3, 1) := by decide +kernel
theorem dX3_evaluate_108 : decode cX3_evaluate 108 = .ok (.getfield 62, 3) := by decide +kernel
theorem dX3_evaluate_111 : decode cX3_evaluate 111 = .ok (.iload 9, 2) := by decide +kernel
theorem dX3_evaluate_113 : decode cX3_evaluate 113 = .ok (.iload 10, 2) := by decide +kernel
theorem dX3_evaluate_115 : decode cX3_evaluate 115 = .ok (.iadd, 1) := by decide +kernel
theorem dX3_evaluate_116 : decode cX3_evaluate 116 = .ok (.iaload, 1) := by decide +kernel
theorem dX3_evaluate_117 : decode cX3_evaluate 117 = .ok (.iload 8, 2) := by decide +kernel
theorem dX3_evaluate_119 : decode cX3_evaluate 119 = .ok (.iand, 1) := by decide +kernel
theorem dX3_evaluate_120 : decode cX3_evaluate 120 = .ok (.ifCond .eq 20, 3) := by decide +kernel
theorem dX3_evaluate_123 : decode cX3_evaluate 123 = .ok (.aload_n 0, 1) := by decide +kernel
theorem dX3_evaluate_124 : decode cX3_evaluate 124 = .ok (.getfield 9, 3) := by decide +kernel
theorem dX3_evaluate_127 : decode cX3_evaluate 127 = .ok (.iload 5, 2) := by decide +kernel
theorem dX3_evaluate_129 : decode cX3_evaluate 129 = .ok (.dup2, 1) := by decide +kernel
theorem dX3_evaluate_130 : decode cX3_evaluate 130 = .ok (.iaload, 1) := by decide +kernel
theorem dX3_evaluate_131 : decode cX3_evaluate 131 = .ok (.iconst 1, 1) := by decide +kernel
theorem dX3_evaluate_132 : decode cX3_evaluate 132 = .ok (.iload 10, 2) := by decide +kernel
theorem dX3_evaluate_134 : decode cX3_evaluate 134 = .ok (.ishl, 1) := by decide +kernel
theorem dX3_evaluate_135 : decode cX3_evaluate 135 = .ok (.iload 4, 2) := by decide +kernel
theorem dX3_evaluate_137 : decode cX3_evaluate 137 = .ok (.iand, 1) := by decide +kernel
theorem dX3_evaluate_138 : decode cX3_evaluate 138 = .ok (.ior, 1) := by decide +kernel
theorem dX3_evaluate_139 : decode cX3_evaluate 139 = .ok (.iastore, 1) := by decide +kernel
theorem dX3_evaluate_140 : decode cX3_evaluate 140 = .ok (.iinc 10 1, 3) := by decide +kernel
theorem dX3_evaluate_143 : decode cX3_evaluate 143 = .ok (.goto (-43), 3) := by decide +kernel
theorem dX3_evaluate_146 : decode cX3_evaluate 146 = .ok (.goto 148, 3) := by decide +kernel
theorem dX3_evaluate_149 : decode cX3_evaluate 149 = .ok (.iload 7, 2) := by decide +kernel
theorem dX3_evaluate_151 : decode cX3_evaluate 151 = .ok (.bipush 24, 2) := by decide +kernel
theorem dX3_evaluate_153 : decode cX3_evaluate 153 = .ok (.if_icmp .ge 29, 3) := by decide +kernel
theorem dX3_evaluate_156 : decode cX3_evaluate 156 = .ok (.iinc 5 1, 3) := by decide +kernel
theorem dX3_evaluate_159 : decode cX3_evaluate 159 = .ok (.aload_n 0, 1) := by decide +kernel
theorem dX3_evaluate_160 : decode cX3_evaluate 160 = .ok (.getfield 9, 3) := by decide +kernel
theorem dX3_evaluate_163 : decode cX3_evaluate 163 = .ok (.iload 5, 2) := by decide +kernel
theorem dX3_evaluate_165 : decode cX3_evaluate 165 = .ok (.aload_n 3, 1) := by decide +kernel
theorem dX3_evaluate_166 : decode cX3_evaluate 166 = .ok (.getfield 65, 3) := by decide +kernel
theorem dX3_evaluate_169 : decode cX3_evaluate 169 = .ok (.iload 7, 2) := by decide +kernel
theorem dX3_evaluate_171 : decode cX3_evaluate 171 = .ok (.bipush 16, 2) := by decide +kernel
theorem dX3_evaluate_173 : decode cX3_evaluate 173 = .ok (.isub, 1) := by decide +kernel
theorem dX3_evaluate_174 : decode cX3_evaluate 174 = .ok (.iaload, 1) := by decide +kernel
theorem dX3_evaluate_175 : decode cX3_evaluate 175 = .ok (.iload 4, 2) := by decide +kernel
theorem dX3_evaluate_177 : decode cX3_evaluate 177 = .ok (.iand, 1) := by decide +kernel
theorem dX3_evaluate_178 : decode cX3_evaluate 178 = .ok (.iastore, 1) := by decide +kernel
theorem dX3_evaluate_179 : decode cX3_evaluate 179 = .ok (.goto 115, 3) := by decide +kernel
theorem dX3_evaluate_182 : decode cX3_evaluate 182 = .ok (.iload 7, 2) := by decide +kernel
theorem dX3_evaluate_184 : decode cX3_evaluate 184 = .ok (.bipush 24, 2) := by decide +kernel
theorem dX3_evaluate_186 : decode cX3_evaluate 186 = .ok (.if_icmp .ne 22, 3) := by decide +kernel
theorem dX3_evaluate_189 : decode cX3_evaluate 189 = .ok (.iinc 5 1, 3) := by decide +kernel
theorem dX3_evaluate_192 : decode cX3_evaluate 192 = .ok (.aload_n 0, 1) := by decide +kernel
theorem dX3_evaluate_193 : decode cX3_evaluate 193 = .ok (.getfield 9, 3) := by decide +kernel
theorem dX3_evaluate_196 : decode cX3_evaluate 196 = .ok (.iload 5, 2) := by decide +kernel
theorem dX3_evaluate_198 : decode cX3_evaluate 198 = .ok (.iconst 1, 1) := by decide +kernel
theorem dX3_evaluate_199 : decode cX3_evaluate 199 = .ok (.iload_n 2, 1) := by decide +kernel
theorem dX3_evaluate_200 : decode cX3_evaluate 200 = .ok (.ishl, 1) := by decide +kernel
theorem dX3_evaluate_201 : decode cX3_evaluate 201 = .ok (.iload 4, 2) := by decide +kernel
theorem dX3_evaluate_203 : decode cX3_evaluate 203 = .ok (.iand, 1) := by decide +kernel
theorem dX3_evaluate_204 : decode cX3_evaluate 204 = .ok (.iastore, 1) := by decide +kernel
theorem dX3_evaluate_205 : decode cX3_evaluate 205 = .ok (.goto 89, 3) := by decide +kernel
theorem dX3_evaluate_208 : decode cX3_evaluate 208 = .ok (.iload 7, 2) := by decide +kernel
theorem dX3_evaluate_210 : decode cX3_evaluate 210 = .ok (.bipush 25, 2) := by decide +kernel
theorem dX3_evaluate_212 : decode cX3_evaluate 212 = .ok (.if_icmp .ne 25, 3) := by decide +kernel
theorem dX3_evaluate_215 : decode cX3_evaluate 215 = .ok (.aload_n 0, 1) := by decide +kernel
theorem dX3_evaluate_216 : decode cX3_evaluate 216 = .ok (.getfield 9, 3) := by decide +kernel
theorem dX3_evaluate_219 : decode cX3_evaluate 219 = .ok (.iload 5, 2) := by decide +kernel
theorem dX3_evaluate_221 : decode cX3_evaluate 221 = .ok (.iload 4, 2) := by decide +kernel
theorem dX3_evaluate_223 : decode cX3_evaluate 223 = .ok (.aload_n 0, 1) := by decide +kernel
theorem dX3_evaluate_224 : decode cX3_evaluate 224 = .ok (.getfield 9, 3) := by decide +kernel
theorem dX3_evaluate_227 : decode cX3_evaluate 227 = .ok (.iload 5, 2) := by decide +kernel
theorem dX3_evaluate_229 : decode cX3_evaluate 229 = .ok (.iaload, 1) := by decide +kernel
theorem dX3_evaluate_230 : decode cX3_evaluate 230 = .ok (.iconst (-1), 1) := by decide +kernel
theorem dX3_evaluate_231 : decode cX3_evaluate 231 = .ok (.ixor, 1) := by decide +kernel
theorem dX3_evaluate_232 : decode cX3_evaluate 232 = .ok (.iand, 1) := by decide +kernel
theorem dX3_evaluate_233 : decode cX3_evaluate 233 = .ok (.iastore, 1) := by decide +kernel
theorem dX3_evaluate_234 : decode cX3_evaluate 234 = .ok (.goto 60, 3) := by decide +kernel
theorem dX3_evaluate_237 : decode cX3_evaluate 237 = .ok (.iload 5, 2) := by decide +kernel
theorem dX3_evaluate_239 : decode cX3_evaluate 239 = .ok (.iconst 1, 1) := by decide +kernel
theorem dX3_evaluate_240 : decode cX3_evaluate 240 = .ok (.if_icmp .le 54, 3) := by decide +kernel
theorem dX3_evaluate_243 : decode cX3_evaluate 243 = .ok (.iinc 5 (-1), 3) := by decide +kernel
theorem dX3_evaluate_246 : decode cX3_evaluate 246 = .ok (.aload_n 0, 1) := by decide +kernel
theorem dX3_evaluate_247 : decode cX3_evaluate 247 = .ok (.getfield 9, 3) := by decide +kernel
theorem dX3_evaluate_250 : decode cX3_evaluate 250 = .ok (.iload 5, 2) := by decide +kernel
theorem dX3_evaluate_252 : decode cX3_evaluate 252 = .ok (.iconst 1, 1) := by decide +kernel
theorem dX3_evaluate_253 : decode cX3_evaluate 253 = .ok (.iadd, 1) := by decide +kernel
theorem dX3_evaluate_254 : decode cX3_evaluate 254 = .ok (.iaload, 1) := by decide +kernel
theorem dX3_evaluate_255 : decode cX3_evaluate 255 = .ok (.istore 8, 2) := by decide +kernel
theorem dX3_evaluate_257 : decode cX3_evaluate 257 = .ok (.aload_n 0, 1) := by decide +kernel
theorem dX3_evaluate_258 : decode cX3_evaluate 258 = .ok (.getfield 9, 3) := by decide +kernel
theorem dX3_evaluate_261 : decode cX3_evaluate 261 = .ok (.iload 5, 2) := by decide +kernel
theorem dX3_evaluate_263 : decode cX3_evaluate 263 = .ok (.iload 7, 2) := by decide +kernel
theorem dX3_evaluate_265 : decode cX3_evaluate 265 = .ok (.bipush 26, 2) := by decide +kernel
theorem dX3_evaluate_267 : decode cX3_evaluate 267 = .ok (.if_icmp .ne 16, 3) := by decide +kernel
theorem dX3_evaluate_270 : decode cX3_evaluate 270 = .ok (.aload_n 0, 1) := by decide +kernel
theorem dX3_evaluate_271 : decode cX3_evaluate 271 = .ok (.getfield 9, 3) := by decide +kernel
theorem dX3_evaluate_274 : decode cX3_evaluate 274 = .ok (.iload 5, 2) := by decide +kernel
theorem dX3_evaluate_276 : decode cX3_evaluate 276 = .ok (.iaload, 1) := by decide +kernel
theorem dX3_evaluate_277 : decode cX3_evaluate 277 = .ok (.iload 8, 2) := by decide +kernel
theorem dX3_evaluate_279 : decode cX3_evaluate 279 = .ok (.iand, 1) := by decide +kernel
theorem dX3_evaluate_280 : decode cX3_evaluate 280 = .ok (.goto 13, 3) := by decide +kernel
theorem dX3_evaluate_283 : decode cX3_evaluate 283 = .ok (.aload_n 0, 1) := by decide +kernel
theorem dX3_evaluate_284 : decode cX3_evaluate 284 = .ok (.getfield 9, 3) := by decide +kernel
theorem dX3_evaluate_287 : decode cX3_evaluate 287 = .ok (.iload 5, 2) := by decide +kernel
theorem dX3_evaluate_289 : decode cX3_evaluate 289 = .ok (.iaload, 1) := by decide +kernel
theorem dX3_evaluate_290 : decode cX3_evaluate 290 = .ok (.iload 8, 2) := by decide +kernel
theorem dX3_evaluate_292 : decode cX3_evaluate 292 = .ok (.ior, 1) := by decide +kernel
theorem dX3_evaluate_293 : decode cX3_evaluate 293 = .ok (.iastore, 1) := by decide +kernel
theorem dX3_evaluate_294 : decode cX3_evaluate 294 = .ok (.iinc 6 1, 3) := by decide +kernel
theorem dX3_evaluate_297 : decode cX3_evaluate 297 = .ok (.goto (-291), 3) := by decide +kernel
theorem dX3_evaluate_300 : decode cX3_evaluate 300 = .ok (.aload_n 0, 1) := by decide +kernel
theorem dX3_evaluate_301 : decode cX3_evaluate 301 = .ok (.getfield 9, 3) := by decide +kernel
theorem dX3_evaluate_304 : decode cX3_evaluate 304 = .ok (.iload 5, 2) := by decide +kernel
theorem dX3_evaluate_306 : decode cX3_evaluate 306 = .ok (.iaload, 1) := by decide +kernel
theorem dX3_evaluate_307 : decode cX3_evaluate 307 = .ok (.ireturn, 1) := by decide +kernel
theorem dX4_init_0 : decode cX4_init 0 = .ok (.aload_n 0, 1) := by decide +kernel
theorem dX4_init_1 : decode cX4_init 1 = .ok (.invokespecial 3, 3) := by decide +kernel
theorem dX4_init_4 : decode cX4_init 4 = .ok (.aload_n 0, 1) := by decide +kernel
theorem dX4_init_5 : decode cX4_init 5 = .ok (.sipush 512, 3) := by decide +kernel
theorem dX4_init_8 : decode cX4_init 8 = .ok (.newarray .int, 2) := by decide +kernel
theorem dX4_init_10 : decode cX4_init 10 = .ok (.putfield 11, 3) := by decide +kernel
theorem dX4_init_13 : decode cX4_init 13 = .ok (.aload_n 0, 1) := by decide +kernel
theorem dX4_init_14 : decode cX4_init 14 = .ok (.bipush 16, 2) := by decide +kernel
theorem dX4_init_16 : decode cX4_init 16 = .ok (.newarray .int, 2) := by decide +kernel
theorem dX4_init_18 : decode cX4_init 18 = .ok (.putfield 15, 3) := by decide +kernel
theorem dX4_init_21 : decode cX4_init 21 = .ok (.return_, 1) := by decide +kernel
theorem dX4_clear_0 : decode cX4_clear 0 = .ok (.aload_n 0, 1) := by decide +kernel
theorem dX4_clear_1 : decode cX4_clear 1 = .ok (.iconst 0, 1) := by decide +kernel
theorem dX4_clear_2 : decode cX4_clear 2 = .ok (.putfield 18, 3) := by decide +kernel
theorem dX4_clear_5 : decode cX4_clear 5 = .ok (.aload_n 0, 1) := by decide +kernel
theorem dX4_clear_6 : decode cX4_clear 6 = .ok (.iconst 0, 1) := by decide +kernel
theorem dX4_clear_7 : decode cX4_clear 7 = .ok (.putfield 22, 3) := by decide +kernel
theorem dX4_clear_10 : decode cX4_clear 10 = .ok (.aload_n 0, 1) := by decide +kernel
theorem dX4_clear_11 : decode cX4_clear 11 = .ok (.iconst 0, 1) := by decide +kernel
theorem dX4_clear_12 : decode cX4_clear 12 = .ok (.putfield 25, 3) := by decide +kernel
theorem dX4_clear_15 : decode cX4_clear 15 = .ok (.aload_n 0, 1) := by decide +kernel
theorem dX4_clear_16 : decode cX4_clear 16 = .ok (.iconst 0, 1) := by decide +kernel
theorem dX4_clear_17 : decode cX4_clear 17 = .ok (.putfield 29, 3) := by decide +kernel
theorem dX4_clear_20 : decode cX4_clear 20 = .ok (.aload_n 0, 1) := by decide +kernel
theorem dX4_clear_21 : decode cX4_clear 21 = .ok (.sipush 10000, 3) := by decide +kernel
theorem dX4_clear_24 : decode cX4_clear 24 = .ok (.putfield 32, 3) := by decide +kernel
theorem dX4_clear_27 : decode cX4_clear 27 = .ok (.aload_n 0, 1) := by decide +kernel
theorem dX4_clear_28 : decode cX4_clear 28 = .ok (.bipush 17, 2) := by decide +kernel
theorem dX4_clear_30 : decode cX4_clear 30 = .ok (.putfield 35, 3) := by decide +kernel
theorem dX4_clear_33 : decode cX4_clear 33 = .ok (.return_, 1) := by decide +kernel
theorem dX4_add_0 : decode cX4_add 0 = .ok (.iload_n 1, 1) := by decide +kernel
theorem dX4_add_1 : decode cX4_add 1 = .ok (.invokestatic 38, 3) := by decide +kernel
theorem dX4_add_4 : decode cX4_add 4 = .ok (.iconst 1, 1) := by decide +kernel
theorem dX4_add_5 : decode cX4_add 5 = .ok (.if_icmp .ne 13, 3) := by decide +kernel
theorem dX4_add_8 : decode cX4_add 8 = .ok (.aload_n 0, 1) := by decide +kernel
theorem dX4_add_9 : decode cX4_add 9 = .ok (.dup, 1) := by decide +kernel
theorem dX4_add_10 : decode cX4_add 10 = .ok (.getfield 22, 3) := by decide +kernel
theorem dX4_add_13 : decode cX4_add 13 = .ok (.iload_n 1, 1) := by decide +kernel
theorem dX4_add_14 : decode cX4_add 14 = .ok (.ior, 1) := by decide +kernel
theorem dX4_add_15 : decode cX4_add 15 = .ok (.putfield 22, 3) := by decide +kernel
theorem dX4_add_18 : decode cX4_add 18 = .ok (.aload_n 0, 1) := by decide +kernel
theorem dX4_add_19 : decode cX4_add 19 = .ok (.aload_n 0, 1) := by decide +kernel
theorem dX4_add_20 : decode cX4_add 20 = .ok (.getfield 25, 3) := by decide +kernel
theorem dX4_add_23 : decode cX4_add 23 = .ok (.ifCond .ne 7, 3) := by decide +kernel
theorem dX4_add_26 : decode cX4_add 26 = .ok (.iload_n 1, 1) := by decide +kernel
theorem dX4_add_27 : decode cX4_add 27 = .ok (.ifCond .ne 7, 3) := by decide +kernel
theorem dX4_add_30 : decode cX4_add 30 = .ok (.iconst 1, 1) := by decide +kernel
theorem dX4_add_31 : decode cX4_add 31 = .ok (.goto 4, 3) := by decide +kernel
theorem dX4_add_34 : decode cX4_add 34 = .ok (.iconst 0, 1) := by decide +kernel
theorem dX4_add_35 : decode cX4_add 35 = .ok (.putfield 25, 3) := by decide +kernel
theorem dX4_add_38 : decode cX4_add 38 = .ok (.iconst 0, 1) := by decide +kernel
theorem dX4_add_39 : decode cX4_add 39 = .ok (.istore_n 2, 1) := by decide +kernel
theorem dX4_add_40 : decode cX4_add 40 = .ok (.iconst 0, 1) := by decide +kernel
theorem dX4_add_41 : decode cX4_add 41 = .ok (.istore_n 3, 1) := by decide +kernel
theorem dX4_add_42 : decode cX4_add 42 = .ok (.iload_n 3, 1) := by decide +kernel
theorem dX4_add_43 : decode cX4_add 43 = .ok (.aload_n 0, 1) := by decide +kernel
theorem dX4_add_44 : decode cX4_add 44 = .ok (.getfield 18, 3) := by decide +kernel
theorem dX4_add_47 : decode cX4_add 47 = .ok (.if_icmp .ge 23, 3) := by decide +kernel
theorem dX4_add_50 : decode cX4_add 50 = .ok (.aload_n 0, 1) := by decide +kernel
theorem dX4_add_51 : decode cX4_add 51 = .ok (.getfield 11, 3) := by decide +kernel
theorem dX4_add_54 : decode cX4_add 54 = .ok (.iload_n 3, 1) := by decide +kernel
theorem dX4_add_55 : decode cX4_add 55 = .ok (.iaload, 1) := by decide +kernel
theorem dX4_add_56 : decode cX4_add 56 = .ok (.iload_n 1, 1) := by decide +kernel
theorem dX4_add_57 : decode cX4_add 57 = .ok (.iconst (-1), 1) := by decide +kernel
theorem dX4_add_58 : decode cX4_add 58 = .ok (.ixor, 1) := by decide +kernel
theorem dX4_add_59 : decode cX4_add 59 = .ok (.iand, 1) := by decide +kernel
theorem dX4_add_60 : decode cX4_add 60 = .ok (.ifCond .ne 4, 3) := by decide +kernel
theorem dX4_add_63 : decode cX4_add 63 = .ok (.return_, 1) := by decide +kernel
theorem dX4_add_64 : decode cX4_add 64 = .ok (.iinc 3 1, 3) := by decide +kernel
theorem dX4_add_67 : decode cX4_add 67 = .ok (.goto (-25), 3) := by decide +kernel
theorem dX4_add_70 : decode cX4_add 70 = .ok (.iconst 0, 1) := by decide +kernel
theorem dX4_add_71 : decode cX4_add 71 = .ok (.istore_n 3, 1) := by decide +kernel
theorem dX4_add_72 : decode cX4_add 72 = .ok (.iload_n 3, 1) := by decide +kernel
theorem dX4_add_73 : decode cX4_add 73 = .ok (.aload_n 0, 1) := by decide +kernel
theorem dX4_add_74 : decode cX4_add 74 = .ok (.getfield 18, 3) := by decide +kernel
theorem dX4_add_77 : decode cX4_add 77 = .ok (.if_icmp .ge 37, 3) := by decide +kernel
theorem dX4_add_80 : decode cX4_add 80 = .ok (.iload_n 1, 1) := by decide +kernel
theorem dX4_add_81 : decode cX4_add 81 = .ok (.aload_n 0, 1) := by decide +kernel
theorem dX4_add_82 : decode cX4_add 82 = .ok (.getfield 11, 3) := by decide +kernel
theorem dX4_add_85 : decode cX4_add 85 = .ok (.iload_n 3, 1) := by decide +kernel
theorem dX4_add_86 : decode cX4_add 86 = .ok (.iaload, 1) := by decide +kernel
theorem dX4_add_87 : decode cX4_add 87 = .ok (.iconst (-1), 1) := by decide +kernel
theorem dX4_add_88 : decode cX4_add 88 = .ok (.ixor, 1) := by decide +kernel
theorem dX4_add_89 : decode cX4_add 89 = .ok (.iand, 1) := by decide +kernel
theorem dX4_add_90 : decode cX4_add 90 = .ok (.ifCond .eq 18, 3) := by decide +kernel
theorem dX4_add_93 : decode cX4_add 93 = .ok (.aload_n 0, 1) := by decide +kernel
theorem dX4_add_94 : decode cX4_add 94 = .ok (.getfield 11, 3) := by decide +kernel
theorem dX4_add_97 : decode cX4_add 97 = .ok (.iload_n 2, 1) := by decide +kernel
theorem dX4_add_98 : decode cX4_add 98 = .ok (.aload_n 0, 1) := by decide +kernel
theorem dX4_add_99 : decode cX4_add 99 = .ok (.getfield 11, 3) := by decide +kernel
theorem dX4_add_102 : decode cX4_add 102 = .ok (.iload_n 3, 1) := by decide +kernel
theorem dX4_add_103 : decode cX4_add 103 = .ok (.iaload, 1) := by decide +kernel
theorem dX4_add_104 : decode cX4_add 104 = .ok (.iastore, 1) := by decide +kernel
theorem dX4_add_105 : decode cX4_add 105 = .ok (.iinc 2 1, 3) := by decide +kernel
theorem dX4_add_108 : decode cX4_add 108 = .ok (.iinc 3 1, 3) := by decide +kernel
theorem dX4_add_111 : decode cX4_add 111 = .ok (.goto (-39), 3) := by decide +kernel
theorem dX4_add_114 : decode cX4_add 114 = .ok (.aload_n 0, 1) := by decide +kernel
theorem dX4_add_115 : decode cX4_add 115 = .ok (.iload_n 2, 1) := by decide +kernel
theorem dX4_add_116 : decode cX4_add 116 = .ok (.putfield 18, 3) := by decide +kernel
theorem dX4_add_119 : decode cX4_add 119 = .ok (.aload_n 0, 1) := by decide +kernel
theorem dX4_add_120 : decode cX4_add 120 = .ok (.getfield 18, 3) := by decide +kernel
theorem dX4_add_123 : decode cX4_add 123 = .ok (.sipush 512, 3) := by decide +kernel
theorem dX4_add_126 : decode cX4_add 126 = .ok (.if_icmp .ge 23, 3) := by decide +kernel
theorem dX4_add_129 : decode cX4_add 129 = .ok (.aload_n 0, 1) := by decide +kernel
theorem dX4_add_130 : decode cX4_add 130 = .ok (.getfield 11, 3) := by decide +kernel
theorem dX4_add_133 : decode cX4_add 133 = .ok (.aload_n 0, 1) := by decide +kernel
theorem dX4_add_134 : decode cX4_add 134 = .ok (.getfield 18, 3) := by decide +kernel
theorem dX4_add_137 : decode cX4_add 137 = .ok (.iload_n 1, 1) := by decide +kernel
theorem dX4_add_138 : decode cX4_add 138 = .ok (.iastore, 1) := by decide +kernel
theorem dX4_add_139 : decode cX4_add 139 = .ok (.aload_n 0, 1) := by decide +kernel
theorem dX4_add_140 : decode cX4_add 140 = .ok (.dup, 1) := by decide +kernel
theorem dX4_add_141 : decode cX4_add 141 = .ok (.getfield 18, 3) := by decide +kernel
theorem dX4_add_144 : decode cX4_add 144 = .ok (.iconst 1, 1) := by decide +kernel
theorem dX4_add_145 : decode cX4_add 145 = .ok (.iadd, 1) := by decide +kernel
theorem dX4_add_146 : decode cX4_add 146 = .ok (.putfield 18, 3) := by decide +kernel
theorem dX4_add_149 : decode cX4_add 149 = .ok (.return_, 1) := by decide +kernel
theorem dX4_solve_0 : decode cX4_solve 0 = .ok (.aload_n 0, 1) := by decide +kernel
theorem dX4_solve_1 : decode cX4_solve 1 = .ok (.iconst 0, 1) := by decide +kernel
theorem dX4_solve_2 : decode cX4_solve 2 = .ok (.iconst 0, 1) := by decide +kernel
theorem dX4_solve_3 : decode cX4_solve 3 = .ok (.iconst 0, 1) := by decide +kernel
theorem dX4_solve_4 : decode cX4_solve 4 = .ok (.iconst 0, 1) := by decide +kernel
theorem dX4_solve_5 : decode cX4_solve 5 = .ok (.invokevirtual 44, 3) := by decide +kernel
theorem dX4_solve_8 : decode cX4_solve 8 = .ok (.return_, 1) := by decide +kernel
theorem dX4_search_0 : decode cX4_search 0 = .ok (.aload_n 0, 1) := by decide +kernel
theorem dX4_search_1 : decode cX4_search 1 = .ok (.iload_n 1, 1) := by decide +kernel
theorem dX4_search_2 : decode cX4_search 2 = .ok (.iload_n 2, 1) := by decide +kernel
theorem dX4_search_3 : decode cX4_search 3 = .ok (.invokevirtual 48, 3) := by decide +kernel
theorem dX4_search_6 : decode cX4_search 6 = .ok (.istore 5, 2) := by decide +kernel
theorem dX4_search_8 : decode cX4_search 8 = .ok (.iload 5, 2) := by decide +kernel
theorem dX4_search_10 : decode cX4_search 10 = .ok (.iconst (-1), 1) := by decide +kernel
theorem dX4_search_11 : decode cX4_search 11 = .ok (.if_icmp .ne 12, 3) := by decide +kernel
theorem dX4_search_14 : decode cX4_search 14 = .ok (.aload_n 0, 1) := by decide +kernel
theorem dX4_search_15 : decode cX4_search 15 = .ok (.iload_n 1, 1) := by decide +kernel
theorem dX4_search_16 : decode cX4_search 16 = .ok (.iload_n 3, 1) := by decide +kernel
theorem dX4_search_17 : decode cX4_search 17 = .ok (.iload 4, 2) := by decide +kernel
theorem dX4_search_19 : decode cX4_search 19 = .ok (.invokevirtual 52, 3) := by decide +kernel
theorem dX4_search_22 : decode cX4_search 22 = .ok (.return_, 1) := by decide +kernel
theorem dX4_search_23 : decode cX4_search 23 = .ok (.iload 4, 2) := by decide +kernel
theorem dX4_search_25 : decode cX4_search 25 = .ok (.bipush 16, 2) := by decide +kernel
theorem dX4_search_27 : decode cX4_search 27 = .ok (.if_icmp .ge 28, 3) := by decide +kernel
theorem dX4_search_30 : decode cX4_search 30 = .ok (.iload_n 3, 1) := by decide +kernel
theorem dX4_search_31 : decode cX4_search 31 = .ok (.aload_n 0, 1) := by decide +kernel
theorem dX4_search_32 : decode cX4_search 32 = .ok (.getfield 32, 3) := by decide +kernel
theorem dX4_search_35 : decode cX4_search 35 = .ok (.if_icmp .gt 20, 3) := by decide +kernel
theorem dX4_search_38 : decode cX4_search 38 = .ok (.iload_n 3, 1) := by decide +kernel
theorem dX4_search_39 : decode cX4_search 39 = .ok (.aload_n 0, 1) := by decide +kernel
theorem dX4_search_40 : decode cX4_search 40 = .ok (.getfield 32, 3) := by decide +kernel
theorem dX4_search_43 : decode cX4_search 43 = .ok (.if_icmp .ne 13, 3) := by decide +kernel
theorem dX4_search_46 : decode cX4_search 46 = .ok (.iload 4, 2) := by decide +kernel
theorem dX4_search_48 : decode cX4_search 48 = .ok (.aload_n 0, 1) := by decide +kernel
theorem dX4_search_49 : decode cX4_search 49 = .ok (.getfield 35, 3) := by decide +kernel
theorem dX4_search_52 : decode cX4_search 52 = .ok (.if_icmp .lt 4, 3) := by decide +kernel
theorem dX4_search_55 : decode cX4_search 55 = .ok (.return_, 1) := by decide +kernel
theorem dX4_search_56 : decode cX4_search 56 = .ok (.aload_n 0, 1) := by decide +kernel
theorem dX4_search_57 : decode cX4_search 57 = .ok (.getfield 11, 3) := by decide +kernel
theorem dX4_search_60 : decode cX4_search 60 = .ok (.iload 5, 2) := by decide +kernel
theorem dX4_search_62 : decode cX4_search 62 = .ok (.iaload, 1) := by decide +kernel
theorem dX4_search_63 : decode cX4_search 63 = .ok (.iload_n 2, 1) := by decide +kernel
theorem dX4_search_64 : decode cX4_search 64 = .ok (.iconst (-1), 1) := by decide +kernel
theorem dX4_search_65 : decode cX4_search 65 = .ok (.ixor, 1) := by decide +kernel
theorem dX4_search_66 : decode cX4_search 66 = .ok (.iand, 1) := by decide +kernel
theorem dX4_search_67 : decode cX4_search 67 = .ok (.istore 6, 2) := by decide +kernel
theorem dX4_search_69 : decode cX4_search 69 = .ok (.iload_n 2, 1) := by decide +kernel
theorem dX4_search_70 : decode cX4_search 70 = .ok (.istore 7, 2) := by decide +kernel
theorem dX4_search_72 : decode cX4_search 72 = .ok (.iconst 0, 1) := by decide +kernel
theorem dX4_search_73 : decode cX4_search 73 = .ok (.istore 8, 2) := by decide +kernel
theorem dX4_search_75 : decode cX4_search 75 = .ok (.iload 8, 2) := by decide +kernel
theorem dX4_search_77 : decode cX4_search 77 = .ok (.bipush 16, 2) := by decide +kernel
theorem dX4_search_79 : decode cX4_search 79 = .ok (.if_icmp .ge 53, 3) := by decide +kernel
theorem dX4_search_82 : decode cX4_search 82 = .ok (.iload 6, 2) := by decide +kernel
theorem dX4_search_84 : decode cX4_search 84 = .ok (.iload 8, 2) := by decide +kernel
theorem dX4_search_86 : decode cX4_search 86 = .ok (.invokestatic 56, 3) := by decide +kernel
theorem dX4_search_89 : decode cX4_search 89 = .ok (.ifCond .eq 37, 3) := by decide +kernel
theorem dX4_search_92 : decode cX4_search 92 = .ok (.aload_n 0, 1) := by decide +kernel
theorem dX4_search_93 : decode cX4_search 93 = .ok (.iload_n 1, 1) := by decide +kernel
theorem dX4_search_94 : decode cX4_search 94 = .ok (.iconst 1, 1) := by decide +kernel
theorem dX4_search_95 : decode cX4_search 95 = .ok (.iload 8, 2) := by decide +kernel
theorem dX4_search_97 : decode cX4_search 97 = .ok (.ishl, 1) := by decide +kernel
theorem dX4_search_98 : decode cX4_search 98 = .ok (.ior, 1) := by decide +kernel
theorem dX4_search_99 : decode cX4_search 99 = .ok (.iload 7, 2) := by decide +kernel
theorem dX4_search_101 : decode cX4_search 101 = .ok (.iload_n 3, 1) := by decide +kernel
theorem dX4_search_102 : decode cX4_search 102 = .ok (.aload_n 0, 1) := by decide +kernel
theorem dX4_search_103 : decode cX4_search 103 = .ok (.getfield 15, 3) := by decide +kernel
theorem dX4_search_106 : decode cX4_search 106 = .ok (.iload 8, 2) := by decide +kernel
theorem dX4_search_108 : decode cX4_search 108 = .ok (.iaload, 1) := by decide +kernel
theorem dX4_search_109 : decode cX4_search 109 = .ok (.iadd, 1) := by decide +kernel
theorem dX4_search_110 : decode cX4_search 110 = .ok (.iload 4, 2) := by decide +kernel
theorem dX4_search_112 : decode cX4_search 112 = .ok (.iconst 1, 1) := by decide +kernel
theorem dX4_search_113 : decode cX4_search 113 = .ok (.iadd, 1) := by decide +kernel
theorem dX4_search_114 : decode cX4_search 114 = .ok (.invokevirtual 44, 3) := by decide +kernel
theorem dX4_search_117 : decode cX4_search 117 = .ok (.iload 7, 2) := by decide +kernel
theorem dX4_search_119 : decode cX4_search 119 = .ok (.iconst 1, 1) := by decide +kernel
theorem dX4_search_120 : decode cX4_search 120 = .ok (.iload 8, 2) := by decide +kernel
theorem dX4_search_122 : decode cX4_search 122 = .ok (.ishl, 1) := by decide +kernel
theorem dX4_search_123 : decode cX4_search 123 = .ok (.ior, 1) := by decide +kernel
theorem dX4_search_124 : decode cX4_search 124 = .ok (.istore 7, 2) := by decide +kernel
theorem dX4_search_126 : decode cX4_search 126 = .ok (.iinc 8 1, 3) := by decide +kernel
theorem dX4_search_129 : decode cX4_search 129 = .ok (.goto (-54), 3) := by decide +kernel
theorem dX4_search_132 : decode cX4_search 132 = .ok (.return_, 1) := by decide +kernel
theorem dX4_hardest_0 : decode cX4_hardest 0 = .ok (.iconst (-1), 1) := by decide +kernel
theorem dX4_hardest_1 : decode cX4_hardest 1 = .ok (.istore_n 3, 1) := by decide +kernel
theorem dX4_hardest_2 : decode cX4_hardest 2 = .ok (.bipush 17, 2) := by decide +kernel
theorem dX4_hardest_4 : decode cX4_hardest 4 = .ok (.istore 4, 2) := by decide +kernel
theorem dX4_hardest_6 : decode cX4_hardest 6 = .ok (.iconst 0, 1) := by decide +kernel
theorem dX4_hardest_7 : decode cX4_hardest 7 = .ok (.istore 5, 2) := by decide +kernel
theorem dX4_hardest_9 : decode cX4_hardest 9 = .ok (.iload 5, 2) := by decide +kernel
theorem dX4_hardest_11 : decode cX4_hardest 11 = .ok (.aload_n 0, 1) := by decide +kernel
theorem dX4_hardest_12 : decode cX4_hardest 12 = .ok (.getfield 18, 3) := by decide +kernel
theorem dX4_hardest_15 : decode cX4_hardest 15 = .ok (.if_icmp .ge 51, 3) := by decide +kernel
theorem dX4_hardest_18 : decode cX4_hardest 18 = .ok (.aload_n 0, 1) := by decide +kernel
theorem dX4_hardest_19 : decode cX4_hardest 19 = .ok (.getfield 11, 3) := by decide +kernel
theorem dX4_hardest_22 : decode cX4_hardest 22 = .ok (.iload 5, 2) := by decide +kernel
theorem dX4_hardest_24 : decode cX4_hardest 24 = .ok (.iaload, 1) := by decide +kernel
theorem dX4_hardest_25 : decode cX4_hardest 25 = .ok (.iload_n 2, 1) := by decide +kernel
theorem dX4_hardest_26 : decode cX4_hardest 26 = .ok (.iconst (-1), 1) := by decide +kernel
theorem dX4_hardest_27 : decode cX4_hardest 27 = .ok (.ixor, 1) := by decide +kernel
theorem dX4_hardest_28 : decode cX4_hardest 28 = .ok (.iand, 1) := by decide +kernel
theorem dX4_hardest_29 : decode cX4_hardest 29 = .ok (.invokestatic 38, 3) := by decide +kernel
theorem dX4_hardest_32 : decode cX4_hardest 32 = .ok (.istore 6, 2) := by decide +kernel
theorem dX4_hardest_34 : decode cX4_hardest 34 = .ok (.aload_n 0, 1) := by decide +kernel
theorem dX4_hardest_35 : decode cX4_hardest 35 = .ok (.getfield 11, 3) := by decide +kernel
theorem dX4_hardest_38 : decode cX4_hardest 38 = .ok (.iload 5, 2) := by decide +kernel
theorem dX4_hardest_40 : decode cX4_hardest 40 = .ok (.iaload, 1) := by decide +kernel
theorem dX4_hardest_41 : decode cX4_hardest 41 = .ok (.iload_n 1, 1) := by decide +kernel
theorem dX4_hardest_42 : decode cX4_hardest 42 = .ok (.iand, 1) := by decide +kernel
theorem dX4_hardest_43 : decode cX4_hardest 43 = .ok (.ifCond .ne 17, 3) := by decide +kernel
theorem dX4_hardest_46 : decode cX4_hardest 46 = .ok (.iload 6, 2) := by decide +kernel
theorem dX4_hardest_48 : decode cX4_hardest 48 = .ok (.iload 4, 2) := by decide +kernel
theorem dX4_hardest_50 : decode cX4_hardest 50 = .ok (.if_icmp .ge 10, 3) := by decide +kernel
theorem dX4_hardest_53 : decode cX4_hardest 53 = .ok (.iload 5, 2) := by decide +kernel
theorem dX4_hardest_55 : decode cX4_hardest 55 = .ok (.istore_n 3, 1) := by decide +kernel
theorem dX4_hardest_56 : decode cX4_hardest 56 = .ok (.iload 6, 2) := by decide +kernel
theorem dX4_hardest_58 : decode cX4_hardest 58 = .ok (.istore 4, 2) := by decide +kernel
theorem dX4_hardest_60 : decode cX4_hardest 60 = .ok (.iinc 5 1, 3) := by decide +kernel
theorem dX4_hardest_63 : decode cX4_hardest 63 = .ok (.goto (-54), 3) := by decide +kernel
theorem dX4_hardest_66 : decode cX4_hardest 66 = .ok (.iload_n 3, 1) := by decide +kernel
theorem dX4_hardest_67 : decode cX4_hardest 67 = .ok (.ireturn, 1) := by decide +kernel
theorem dX4_keepIfBetter_0 : decode cX4_keepIfBetter 0 = .ok (.iload_n 2, 1) := by decide +kernel
theorem dX4_keepIfBetter_1 : decode cX4_keepIfBetter 1 = .ok (.aload_n 0, 1) := by decide +kernel
theorem dX4_keepIfBetter_2 : decode cX4_keepIfBetter 2 = .ok (.getfield 32, 3) := by decide +kernel
theorem dX4_keepIfBetter_5 : decode cX4_keepIfBetter 5 = .ok (.if_icmp .ge 7, 3) := by decide +kernel
theorem dX4_keepIfBetter_8 : decode cX4_keepIfBetter 8 = .ok (.iconst 1, 1) := by decide +kernel
theorem dX4_keepIfBetter_9 : decode cX4_keepIfBetter 9 = .ok (.goto 4, 3) := by decide +kernel
theorem dX4_keepIfBetter_12 : decode cX4_keepIfBetter 12 = .ok (.iconst 0, 1) := by decide +kernel
theorem dX4_keepIfBetter_13 : decode cX4_keepIfBetter 13 = .ok (.istore 4, 2) := by decide +kernel
theorem dX4_keepIfBetter_15 : decode cX4_keepIfBetter 15 = .ok (.iload_n 2, 1) := by decide +kernel
theorem dX4_keepIfBetter_16 : decode cX4_keepIfBetter 16 = .ok (.aload_n 0, 1) := by decide +kernel
theorem dX4_keepIfBetter_17 : decode cX4_keepIfBetter 17 = .ok (.getfield 32, 3) := by decide +kernel
theorem dX4_keepIfBetter_20 : decode cX4_keepIfBetter 20 = .ok (.if_icmp .ne 34, 3) := by decide +kernel
theorem dX4_keepIfBetter_23 : decode cX4_keepIfBetter 23 = .ok (.iload_n 3, 1) := by decide +kernel
theorem dX4_keepIfBetter_24 : decode cX4_keepIfBetter 24 = .ok (.aload_n 0, 1) := by decide +kernel
theorem dX4_keepIfBetter_25 : decode cX4_keepIfBetter 25 = .ok (.getfield 35, 3) := by decide +kernel
theorem dX4_keepIfBetter_28 : decode cX4_keepIfBetter 28 = .ok (.if_icmp .lt 19, 3) := by decide +kernel
theorem dX4_keepIfBetter_31 : decode cX4_keepIfBetter 31 = .ok (.iload_n 3, 1) := by decide +kernel
theorem dX4_keepIfBetter_32 : decode cX4_keepIfBetter 32 = .ok (.aload_n 0, 1) := by decide +kernel
theorem dX4_keepIfBetter_33 : decode cX4_keepIfBetter 33 = .ok (.getfield 35, 3) := by decide +kernel
theorem dX4_keepIfBetter_36 : decode cX4_keepIfBetter 36 = .ok (.if_icmp .ne 15, 3) := by decide +kernel
theorem dX4_keepIfBetter_39 : decode cX4_keepIfBetter 39 = .ok (.iload_n 1, 1) := by decide +kernel
theorem dX4_keepIfBetter_40 : decode cX4_keepIfBetter 40 = .ok (.aload_n 0, 1) := by decide +kernel
theorem dX4_keepIfBetter_41 : decode cX4_keepIfBetter 41 = .ok (.getfield 29, 3) := by decide +kernel
theorem dX4_keepIfBetter_44 : decode cX4_keepIfBetter 44 = .ok (.if_icmp .ge 7, 3) := by decide +kernel
theorem dX4_keepIfBetter_47 : decode cX4_keepIfBetter 47 = .ok (.iconst 1, 1) := by decide +kernel
theorem dX4_keepIfBetter_48 : decode cX4_keepIfBetter 48 = .ok (.goto 4, 3) := by decide +kernel
theorem dX4_keepIfBetter_51 : decode cX4_keepIfBetter 51 = .ok (.iconst 0, 1) := by decide +kernel
theorem dX4_keepIfBetter_52 : decode cX4_keepIfBetter 52 = .ok (.istore 4, 2) := by decide +kernel
theorem dX4_keepIfBetter_54 : decode cX4_keepIfBetter 54 = .ok (.iload 4, 2) := by decide +kernel
theorem dX4_keepIfBetter_56 : decode cX4_keepIfBetter 56 = .ok (.ifCond .eq 18, 3) := by decide +kernel
theorem dX4_keepIfBetter_59 : decode cX4_keepIfBetter 59 = .ok (.aload_n 0, 1) := by decide +kernel
theorem dX4_keepIfBetter_60 : decode cX4_keepIfBetter 60 = .ok (.iload_n 1, 1) := by decide +kernel
theorem dX4_keepIfBetter_61 : decode cX4_keepIfBetter 61 = .ok (.putfield 29, 3) := by decide +kernel
theorem dX4_keepIfBetter_64 : decode cX4_keepIfBetter 64 = .ok (.aload_n 0, 1) := by decide +kernel
theorem dX4_keepIfBetter_65 : decode cX4_keepIfBetter 65 = .ok (.iload_n 2, 1) := by decide +kernel
theorem dX4_keepIfBetter_66 : decode cX4_keepIfBetter 66 = .ok (.putfield 32, 3) := by decide +kernel
theorem dX4_keepIfBetter_69 : decode cX4_keepIfBetter 69 = .ok (.aload_n 0, 1) := by decide +kernel
theorem dX4_keepIfBetter_70 : decode cX4_keepIfBetter 70 = .ok (.iload_n 3, 1) := by decide +kernel
theorem dX4_keepIfBetter_71 : decode cX4_keepIfBetter 71 = .ok (.putfield 35, 3) := by decide +kernel
theorem dX4_keepIfBetter_74 : decode cX4_keepIfBetter 74 = .ok (.return_, 1) := by decide +kernel
theorem dX5_init_0 : decode cX5_init 0 = .ok (.aload_n 0, 1) := by decide +kernel
theorem dX5_init_1 : decode cX5_init 1 = .ok (.invokespecial 3, 3) := by decide +kernel
theorem dX5_init_4 : decode cX5_init 4 = .ok (.aload_n 0, 1) := by decide +kernel
theorem dX5_init_5 : decode cX5_init 5 = .ok (.iconst (-1), 1) := by decide +kernel
theorem dX5_init_6 : decode cX5_init 6 = .ok (.putfield 9, 3) := by decide +kernel
theorem dX5_init_9 : decode cX5_init 9 = .ok (.return_, 1) := by decide +kernel
theorem dX5_begin_0 : decode cX5_begin 0 = .ok (.aload_n 0, 1) := by decide +kernel
theorem dX5_begin_1 : decode cX5_begin 1 = .ok (.aload_n 1, 1) := by decide +kernel
theorem dX5_begin_2 : decode cX5_begin 2 = .ok (.putfield 15, 3) := by decide +kernel
theorem dX5_begin_5 : decode cX5_begin 5 = .ok (.aload_n 0, 1) := by decide +kernel
theorem dX5_begin_6 : decode cX5_begin 6 = .ok (.iload_n 2, 1) := by decide +kernel
theorem dX5_begin_7 : decode cX5_begin 7 = .ok (.putfield 19, 3) := by decide +kernel
theorem dX5_begin_10 : decode cX5_begin 10 = .ok (.aload_n 0, 1) := by decide +kernel
theorem dX5_begin_11 : decode cX5_begin 11 = .ok (.iload_n 3, 1) := by decide +kernel
theorem dX5_begin_12 : decode cX5_begin 12 = .ok (.putfield 22, 3) := by decide +kernel
theorem dX5_begin_15 : decode cX5_begin 15 = .ok (.aload_n 0, 1) := by decide +kernel
theorem dX5_begin_16 : decode cX5_begin 16 = .ok (.iload 4, 2) := by decide +kernel
theorem dX5_begin_18 : decode cX5_begin 18 = .ok (.putfield 25, 3) := by decide +kernel
theorem dX5_begin_21 : decode cX5_begin 21 = .ok (.aload_n 0, 1) := by decide +kernel
theorem dX5_begin_22 : decode cX5_begin 22 = .ok (.iload 5, 2) := by decide +kernel
theorem dX5_begin_24 : decode cX5_begin 24 = .ok (.putfield 28, 3) := by decide +kernel
theorem dX5_begin_27 : decode cX5_begin 27 = .ok (.aload_n 0, 1) := by decide +kernel
theorem dX5_begin_28 : decode cX5_begin 28 = .ok (.invokevirtual 31, 3) := by decide +kernel
theorem dX5_begin_31 : decode cX5_begin 31 = .ok (.return_, 1) := by decide +kernel
theorem dX5_beginAgain_0 : decode cX5_beginAgain 0 = .ok (.aload_n 0, 1) := by decide +kernel
theorem dX5_beginAgain_1 : decode cX5_beginAgain 1 = .ok (.iconst 0, 1) := by decide +kernel
theorem dX5_beginAgain_2 : decode cX5_beginAgain 2 = .ok (.putfield 34, 3) := by decide +kernel
theorem dX5_beginAgain_5 : decode cX5_beginAgain 5 = .ok (.aload_n 0, 1) := by decide +kernel
theorem dX5_beginAgain_6 : decode cX5_beginAgain 6 = .ok (.aload_n 0, 1) := by decide +kernel
theorem dX5_beginAgain_7 : decode cX5_beginAgain 7 = .ok (.getfield 25, 3) := by decide +kernel
theorem dX5_beginAgain_10 : decode cX5_beginAgain 10 = .ok (.putfield 37, 3) := by decide +kernel
theorem dX5_beginAgain_13 : decode cX5_beginAgain 13 = .ok (.aload_n 0, 1) := by decide +kernel
theorem dX5_beginAgain_14 : decode cX5_beginAgain 14 = .ok (.aload_n 0, 1) := by decide +kernel
theorem dX5_beginAgain_15 : decode cX5_beginAgain 15 = .ok (.getfield 28, 3) := by decide +kernel
theorem dX5_beginAgain_18 : decode cX5_beginAgain 18 = .ok (.putfield 40, 3) := by decide +kernel
theorem dX5_beginAgain_21 : decode cX5_beginAgain 21 = .ok (.aload_n 0, 1) := by decide +kernel
theorem dX5_beginAgain_22 : decode cX5_beginAgain 22 = .ok (.iconst (-1), 1) := by decide +kernel
theorem dX5_beginAgain_23 : decode cX5_beginAgain 23 = .ok (.putfield 9, 3) := by decide +kernel
theorem dX5_beginAgain_26 : decode cX5_beginAgain 26 = .ok (.aload_n 0, 1) := by decide +kernel
theorem dX5_beginAgain_27 : decode cX5_beginAgain 27 = .ok (.iconst 1, 1) := by decide +kernel
theorem dX5_beginAgain_28 : decode cX5_beginAgain 28 = .ok (.aload_n 0, 1) := by decide +kernel
theorem dX5_beginAgain_29 : decode cX5_beginAgain 29 = .ok (.getfield 25, 3) := by decide +kernel
theorem dX5_beginAgain_32 : decode cX5_beginAgain 32 = .ok (.ishl, 1) := by decide +kernel
theorem dX5_beginAgain_33 : decode cX5_beginAgain 33 = .ok (.putfield 43, 3) := by decide +kernel
theorem dX5_beginAgain_36 : decode cX5_beginAgain 36 = .ok (.aload_n 0, 1) := by decide +kernel
theorem dX5_beginAgain_37 : decode cX5_beginAgain 37 = .ok (.iconst 0, 1) := by decide +kernel
theorem dX5_beginAgain_38 : decode cX5_beginAgain 38 = .ok (.putfield 46, 3) := by decide +kernel
theorem dX5_beginAgain_41 : decode cX5_beginAgain 41 = .ok (.aload_n 0, 1) := by decide +kernel
theorem dX5_beginAgain_42 : decode cX5_beginAgain 42 = .ok (.iconst 0, 1) := by decide +kernel
theorem dX5_beginAgain_43 : decode cX5_beginAgain 43 = .ok (.putfield 49, 3) := by decide +kernel
theorem dX5_beginAgain_46 : decode cX5_beginAgain 46 = .ok (.return_, 1) := by decide +kernel
theorem dX5_isRight_0 : decode cX5_isRight 0 = .ok (.aload_n 0, 1) := by decide +kernel
theorem dX5_isRight_1 : decode cX5_isRight 1 = .ok (.getfield 34, 3) := by decide +kernel
theorem dX5_isRight_4 : decode cX5_isRight 4 = .ok (.iconst 1, 1) := by decide +kernel
theorem dX5_isRight_5 : decode cX5_isRight 5 = .ok (.if_icmp .ne 18, 3) := by decide +kernel
theorem dX5_isRight_8 : decode cX5_isRight 8 = .ok (.aload_n 0, 1) := by decide +kernel
theorem dX5_isRight_9 : decode cX5_isRight 9 = .ok (.getfield 9, 3) := by decide +kernel
theorem dX5_isRight_12 : decode cX5_isRight 12 = .ok (.aload_n 0, 1) := by decide +kernel
theorem dX5_isRight_13 : decode cX5_isRight 13 = .ok (.getfield 22, 3) := by decide +kernel
theorem dX5_isRight_16 : decode cX5_isRight 16 = .ok (.if_icmp .ne 7, 3) := by decide +kernel
theorem dX5_isRight_19 : decode cX5_isRight 19 = .ok (.iconst 1, 1) := by decide +kernel
theorem dX5_isRight_20 : decode cX5_isRight 20 = .ok (.goto 4, 3) := by decide +kernel
theorem dX5_isRight_23 : decode cX5_isRight 23 = .ok (.iconst 0, 1) := by decide +kernel
theorem dX5_isRight_24 : decode cX5_isRight 24 = .ok (.ireturn, 1) := by decide +kernel
theorem dX5_copyFrom_0 : decode cX5_copyFrom 0 = .ok (.aload_n 0, 1) := by decide +kernel
theorem dX5_copyFrom_1 : decode cX5_copyFrom 1 = .ok (.aload_n 1, 1) := by decide +kernel
theorem dX5_copyFrom_2 : decode cX5_copyFrom 2 = .ok (.getfield 15, 3) := by decide +kernel
theorem dX5_copyFrom_5 : decode cX5_copyFrom 5 = .ok (.putfield 15, 3) := by decide +kernel
theorem dX5_copyFrom_8 : decode cX5_copyFrom 8 = .ok (.aload_n 0, 1) := by decide +kernel
theorem dX5_copyFrom_9 : decode cX5_copyFrom 9 = .ok (.aload_n 1, 1) := by decide +kernel
theorem dX5_copyFrom_10 : decode cX5_copyFrom 10 = .ok (.getfield 19, 3) := by decide +kernel
theorem dX5_copyFrom_13 : decode cX5_copyFrom 13 = .ok (.putfield 19, 3) := by decide +kernel
theorem dX5_copyFrom_16 : decode cX5_copyFrom 16 = .ok (.aload_n 0, 1) := by decide +kernel
theorem dX5_copyFrom_17 : decode cX5_copyFrom 17 = .ok (.aload_n 1, 1) := by decide +kernel
theorem dX5_copyFrom_18 : decode cX5_copyFrom 18 = .ok (.getfield 22, 3) := by decide +kernel
theorem dX5_copyFrom_21 : decode cX5_copyFrom 21 = .ok (.putfield 22, 3) := by decide +kernel
theorem dX5_copyFrom_24 : decode cX5_copyFrom 24 = .ok (.aload_n 0, 1) := by decide +kernel
theorem dX5_copyFrom_25 : decode cX5_copyFrom 25 = .ok (.aload_n 1, 1) := by decide +kernel
theorem dX5_copyFrom_26 : decode cX5_copyFrom 26 = .ok (.getfield 25, 3) := by decide +kernel
theorem dX5_copyFrom_29 : decode cX5_copyFrom 29 = .ok (.putfield 25, 3) := by decide +kernel
theorem dX5_copyFrom_32 : decode cX5_copyFrom 32 = .ok (.aload_n 0, 1) := by decide +kernel
theorem dX5_copyFrom_33 : decode cX5_copyFrom 33 = .ok (.aload_n 1, 1) := by decide +kernel
theorem dX5_copyFrom_34 : decode cX5_copyFrom 34 = .ok (.getfield 28, 3) := by decide +kernel
theorem dX5_copyFrom_37 : decode cX5_copyFrom 37 = .ok (.putfield 28, 3) := by decide +kernel
theorem dX5_copyFrom_40 : decode cX5_copyFrom 40 = .ok (.aload_n 0, 1) := by decide +kernel
theorem dX5_copyFrom_41 : decode cX5_copyFrom 41 = .ok (.aload_n 1, 1) := by decide +kernel
theorem dX5_copyFrom_42 : decode cX5_copyFrom 42 = .ok (.getfield 34, 3) := by decide +kernel
theorem dX5_copyFrom_45 : decode cX5_copyFrom 45 = .ok (.putfield 34, 3) := by decide +kernel
theorem dX5_copyFrom_48 : decode cX5_copyFrom 48 = .ok (.aload_n 0, 1) := by decide +kernel
theorem dX5_copyFrom_49 : decode cX5_copyFrom 49 = .ok (.aload_n 1, 1) := by decide +kernel
theorem dX5_copyFrom_50 : decode cX5_copyFrom 50 = .ok (.getfield 37, 3) := by decide +kernel
theorem dX5_copyFrom_53 : decode cX5_copyFrom 53 = .ok (.putfield 37, 3) := by decide +kernel
theorem dX5_copyFrom_56 : decode cX5_copyFrom 56 = .ok (.aload_n 0, 1) := by decide +kernel
theorem dX5_copyFrom_57 : decode cX5_copyFrom 57 = .ok (.aload_n 1, 1) := by decide +kernel
theorem dX5_copyFrom_58 : decode cX5_copyFrom 58 = .ok (.getfield 40, 3) := by decide +kernel
theorem dX5_copyFrom_61 : decode cX5_copyFrom 61 = .ok (.putfield 40, 3) := by decide +kernel
theorem dX5_copyFrom_64 : decode cX5_copyFrom 64 = .ok (.aload_n 0, 1) := by decide +kernel
theorem dX5_copyFrom_65 : decode cX5_copyFrom 65 = .ok (.aload_n 1, 1) := by decide +kernel
theorem dX5_copyFrom_66 : decode cX5_copyFrom 66 = .ok (.getfield 9, 3) := by decide +kernel
theorem dX5_copyFrom_69 : decode cX5_copyFrom 69 = .ok (.putfield 9, 3) := by decide +kernel
theorem dX5_copyFrom_72 : decode cX5_copyFrom 72 = .ok (.aload_n 0, 1) := by decide +kernel
theorem dX5_copyFrom_73 : decode cX5_copyFrom 73 = .ok (.aload_n 1, 1) := by decide +kernel
theorem dX5_copyFrom_74 : decode cX5_copyFrom 74 = .ok (.getfield 43, 3) := by decide +kernel
theorem dX5_copyFrom_77 : decode cX5_copyFrom 77 = .ok (.putfield 43, 3) := by decide +kernel
theorem dX5_copyFrom_80 : decode cX5_copyFrom 80 = .ok (.aload_n 0, 1) := by decide +kernel
theorem dX5_copyFrom_81 : decode cX5_copyFrom 81 = .ok (.aload_n 1, 1) := by decide +kernel
theorem dX5_copyFrom_82 : decode cX5_copyFrom 82 = .ok (.getfield 46, 3) := by decide +kernel
theorem dX5_copyFrom_85 : decode cX5_copyFrom 85 = .ok (.putfield 46, 3) := by decide +kernel
theorem dX5_copyFrom_88 : decode cX5_copyFrom 88 = .ok (.aload_n 0, 1) := by decide +kernel
theorem dX5_copyFrom_89 : decode cX5_copyFrom 89 = .ok (.aload_n 1, 1) := by decide +kernel
theorem dX5_copyFrom_90 : decode cX5_copyFrom 90 = .ok (.getfield 49, 3) := by decide +kernel
theorem dX5_copyFrom_93 : decode cX5_copyFrom 93 = .ok (.putfield 49, 3) := by decide +kernel
theorem dX5_copyFrom_96 : decode cX5_copyFrom 96 = .ok (.return_, 1) := by decide +kernel
theorem dX6_init_0 : decode cX6_init 0 = .ok (.aload_n 0, 1) := by decide +kernel
theorem dX6_init_1 : decode cX6_init 1 = .ok (.invokespecial 3, 3) := by decide +kernel
theorem dX6_init_4 : decode cX6_init 4 = .ok (.aload_n 0, 1) := by decide +kernel
theorem dX6_init_5 : decode cX6_init 5 = .ok (.bipush 61, 2) := by decide +kernel
theorem dX6_init_7 : decode cX6_init 7 = .ok (.anewarray 9, 3) := by decide +kernel
theorem dX6_init_10 : decode cX6_init 10 = .ok (.putfield 11, 3) := by decide +kernel
theorem dX6_init_13 : decode cX6_init 13 = .ok (.aload_n 0, 1) := by decide +kernel
theorem dX6_init_14 : decode cX6_init 14 = .ok (.iconst (-1), 1) := by decide +kernel
theorem dX6_init_15 : decode cX6_init 15 = .ok (.putfield 17, 3) := by decide +kernel
theorem dX6_init_18 : decode cX6_init 18 = .ok (.aload_n 0, 1) := by decide +kernel
theorem dX6_init_19 : decode cX6_init 19 = .ok (.aload_n 1, 1) := by decide +kernel
theorem dX6_init_20 : decode cX6_init 20 = .ok (.putfield 21, 3) := by decide +kernel
theorem dX6_init_23 : decode cX6_init 23 = .ok (.return_, 1) := by decide +kernel
theorem dX6_keepUpTo_0 : decode cX6_keepUpTo 0 = .ok (.aload_n 0, 1) := by decide +kernel
theorem dX6_keepUpTo_1 : decode cX6_keepUpTo 1 = .ok (.aload_n 0, 1) := by decide +kernel
theorem dX6_keepUpTo_2 : decode cX6_keepUpTo 2 = .ok (.getfield 17, 3) := by decide +kernel
theorem dX6_keepUpTo_5 : decode cX6_keepUpTo 5 = .ok (.iload_n 1, 1) := by decide +kernel
theorem dX6_keepUpTo_6 : decode cX6_keepUpTo 6 = .ok (.invokestatic 25, 3) := by decide +kernel
theorem dX6_keepUpTo_9 : decode cX6_keepUpTo 9 = .ok (.putfield 17, 3) := by decide +kernel
theorem dX6_keepUpTo_12 : decode cX6_keepUpTo 12 = .ok (.return_, 1) := by decide +kernel
theorem dX6_on_0 : decode cX6_on 0 = .ok (.iconst 0, 1) := by decide +kernel
theorem dX6_on_1 : decode cX6_on 1 = .ok (.istore_n 2, 1) := by decide +kernel
theorem dX6_on_2 : decode cX6_on 2 = .ok (.bipush 32, 2) := by decide +kernel
theorem dX6_on_4 : decode cX6_on 4 = .ok (.istore_n 3, 1) := by decide +kernel
theorem dX6_on_5 : decode cX6_on 5 = .ok (.iload_n 3, 1) := by decide +kernel
theorem dX6_on_6 : decode cX6_on 6 = .ok (.ifCond .le 49, 3) := by decide +kernel
theorem dX6_on_9 : decode cX6_on 9 = .ok (.iload_n 2, 1) := by decide +kernel
theorem dX6_on_10 : decode cX6_on 10 = .ok (.iload_n 3, 1) := by decide +kernel
theorem dX6_on_11 : decode cX6_on 11 = .ok (.iadd, 1) := by decide +kernel
theorem dX6_on_12 : decode cX6_on 12 = .ok (.istore 4, 2) := by decide +kernel
theorem dX6_on_14 : decode cX6_on 14 = .ok (.iload 4, 2) := by decide +kernel
theorem dX6_on_16 : decode cX6_on 16 = .ok (.aload_n 0, 1) := by decide +kernel
theorem dX6_on_17 : decode cX6_on 17 = .ok (.getfield 21, 3) := by decide +kernel
theorem dX6_on_20 : decode cX6_on 20 = .ok (.getfield 31, 3) := by decide +kernel
theorem dX6_on_23 : decode cX6_on 23 = .ok (.if_icmp .gt 25, 3) := by decide +kernel
theorem dX6_on_26 : decode cX6_on 26 = .ok (.aload_n 0, 1) := by decide +kernel
theorem dX6_on_27 : decode cX6_on 27 = .ok (.getfield 21, 3) := by decide +kernel
theorem dX6_on_30 : decode cX6_on 30 = .ok (.getfield 36, 3) := by decide +kernel
theorem dX6_on_33 : decode cX6_on 33 = .ok (.iload 4, 2) := by decide +kernel
theorem dX6_on_35 : decode cX6_on 35 = .ok (.iconst 1, 1) := by decide +kernel
theorem dX6_on_36 : decode cX6_on 36 = .ok (.isub, 1) := by decide +kernel
theorem dX6_on_37 : decode cX6_on 37 = .ok (.iaload, 1) := by decide +kernel
theorem dX6_on_38 : decode cX6_on 38 = .ok (.invokestatic 40, 3) := by decide +kernel
theorem dX6_on_41 : decode cX6_on 41 = .ok (.iload_n 1, 1) := by decide +kernel
theorem dX6_on_42 : decode cX6_on 42 = .ok (.if_icmp .gt 6, 3) := by decide +kernel
theorem dX6_on_45 : decode cX6_on 45 = .ok (.iload 4, 2) := by decide +kernel
theorem dX6_on_47 : decode cX6_on 47 = .ok (.istore_n 2, 1) := by decide +kernel
theorem dX6_on_48 : decode cX6_on 48 = .ok (.iload_n 3, 1) := by decide +kernel
theorem dX6_on_49 : decode cX6_on 49 = .ok (.iconst 2, 1) := by decide +kernel
theorem dX6_on_50 : decode cX6_on 50 = .ok (.idiv, 1) := by decide +kernel
theorem dX6_on_51 : decode cX6_on 51 = .ok (.istore_n 3, 1) := by decide +kernel
theorem dX6_on_52 : decode cX6_on 52 = .ok (.goto (-47), 3) := by decide +kernel
theorem dX6_on_55 : decode cX6_on 55 = .ok (.aload_n 0, 1) := by decide +kernel
theorem dX6_on_56 : decode cX6_on 56 = .ok (.getfield 17, 3) := by decide +kernel
theorem dX6_on_59 : decode cX6_on 59 = .ok (.iconst 1, 1) := by decide +kernel
theorem dX6_on_60 : decode cX6_on 60 = .ok (.iadd, 1) := by decide +kernel
theorem dX6_on_61 : decode cX6_on 61 = .ok (.istore_n 3, 1) := by decide +kernel
theorem dX6_on_62 : decode cX6_on 62 = .ok (.iload_n 3, 1) := by decide +kernel
theorem dX6_on_63 : decode cX6_on 63 = .ok (.iload_n 2, 1) := by decide +kernel
theorem dX6_on_64 : decode cX6_on 64 = .ok (.if_icmp .gt 85, 3) := by decide +kernel
theorem dX6_on_67 : decode cX6_on 67 = .ok (.aload_n 0, 1) := by decide +kernel
theorem dX6_on_68 : decode cX6_on 68 = .ok (.getfield 11, 3) := by decide +kernel
theorem dX6_on_71 : decode cX6_on 71 = .ok (.iload_n 3, 1) := by decide +kernel
theorem dX6_on_72 : decode cX6_on 72 = .ok (.aaload, 1) := by decide +kernel
theorem dX6_on_73 : decode cX6_on 73 = .ok (.ifnonnull 17, 3) := by decide +kernel
theorem dX6_on_76 : decode cX6_on 76 = .ok (.aload_n 0, 1) := by decide +kernel
theorem dX6_on_77 : decode cX6_on 77 = .ok (.getfield 11, 3) := by decide +kernel
theorem dX6_on_80 : decode cX6_on 80 = .ok (.iload_n 3, 1) := by decide +kernel
theorem dX6_on_81 : decode cX6_on 81 = .ok (.new 9, 3) := by decide +kernel
theorem dX6_on_84 : decode cX6_on 84 = .ok (.dup, 1) := by decide +kernel
theorem dX6_on_85 : decode cX6_on 85 = .ok (.iload_n 3, 1) := by decide +kernel
theorem dX6_on_86 : decode cX6_on 86 = .ok (.invokespecial 44, 3) := by decide +kernel
theorem dX6_on_89 : decode cX6_on 89 = .ok (.aastore, 1) := by decide +kernel
theorem dX6_on_90 : decode cX6_on 90 = .ok (.iload_n 3, 1) := by decide +kernel
theorem dX6_on_91 : decode cX6_on 91 = .ok (.ifCond .ne 19, 3) := by decide +kernel
theorem dX6_on_94 : decode cX6_on 94 = .ok (.aload_n 0, 1) := by decide +kernel
theorem dX6_on_95 : decode cX6_on 95 = .ok (.getfield 11, 3) := by decide +kernel
theorem dX6_on_98 : decode cX6_on 98 = .ok (.iconst 0, 1) := by decide +kernel
theorem dX6_on_99 : decode cX6_on 99 = .ok (.aaload, 1) := by decide +kernel
theorem dX6_on_100 : decode cX6_on 100 = .ok (.aload_n 0, 1) := by decide +kernel
theorem dX6_on_101 : decode cX6_on 101 = .ok (.getfield 21, 3) := by decide +kernel
theorem dX6_on_104 : decode cX6_on 104 = .ok (.invokevirtual 47, 3) := by decide +kernel
theorem dX6_on_107 : decode cX6_on 107 = .ok (.goto 31, 3) := by decide +kernel
theorem dX6_on_110 : decode cX6_on 110 = .ok (.aload_n 0, 1) := by decide +kernel
theorem dX6_on_111 : decode cX6_on 111 = .ok (.getfield 11, 3) := by decide +kernel
theorem dX6_on_114 : decode cX6_on 114 = .ok (.iload_n 3, 1) := by decide +kernel
theorem dX6_on_115 : decode cX6_on 115 = .ok (.aaload, 1) := by decide +kernel
theorem dX6_on_116 : decode cX6_on 116 = .ok (.aload_n 0, 1) := by decide +kernel
theorem dX6_on_117 : decode cX6_on 117 = .ok (.getfield 11, 3) := by decide +kernel
theorem dX6_on_120 : decode cX6_on 120 = .ok (.iload_n 3, 1) := by decide +kernel
theorem dX6_on_121 : decode cX6_on 121 = .ok (.iconst 1, 1) := by decide +kernel
theorem dX6_on_122 : decode cX6_on 122 = .ok (.isub, 1) := by decide +kernel
theorem dX6_on_123 : decode cX6_on 123 = .ok (.aaload, 1) := by decide +kernel
theorem dX6_on_124 : decode cX6_on 124 = .ok (.aload_n 0, 1) := by decide +kernel
theorem dX6_on_125 : decode cX6_on 125 = .ok (.getfield 21, 3) := by decide +kernel
theorem dX6_on_128 : decode cX6_on 128 = .ok (.getfield 36, 3) := by decide +kernel
theorem dX6_on_131 : decode cX6_on 131 = .ok (.iload_n 3, 1) := by decide +kernel
theorem dX6_on_132 : decode cX6_on 132 = .ok (.iconst 1, 1) := by decide +kernel
theorem dX6_on_133 : decode cX6_on 133 = .ok (.isub, 1) := by decide +kernel
theorem dX6_on_134 : decode cX6_on 134 = .ok (.iaload, 1) := by decide +kernel
theorem dX6_on_135 : decode cX6_on 135 = .ok (.invokevirtual 51, 3) := by decide +kernel
theorem dX6_on_138 : decode cX6_on 138 = .ok (.aload_n 0, 1) := by decide +kernel
theorem dX6_on_139 : decode cX6_on 139 = .ok (.iload_n 3, 1) := by decide +kernel
theorem dX6_on_140 : decode cX6_on 140 = .ok (.putfield 17, 3) := by decide +kernel
theorem dX6_on_143 : decode cX6_on 143 = .ok (.iinc 3 1, 3) := by decide +kernel
theorem dX6_on_146 : decode cX6_on 146 = .ok (.goto (-84), 3) := by decide +kernel
theorem dX6_on_149 : decode cX6_on 149 = .ok (.aload_n 0, 1) := by decide +kernel
theorem dX6_on_150 : decode cX6_on 150 = .ok (.getfield 11, 3) := by decide +kernel
theorem dX6_on_153 : decode cX6_on 153 = .ok (.iload_n 2, 1) := by decide +kernel
theorem dX6_on_154 : decode cX6_on 154 = .ok (.aaload, 1) := by decide +kernel
theorem dX6_on_155 : decode cX6_on 155 = .ok (.areturn, 1) := by decide +kernel
theorem dX7_init_0 : decode cX7_init 0 = .ok (.aload_n 0, 1) := by decide +kernel
theorem dX7_init_1 : decode cX7_init 1 = .ok (.invokespecial 3, 3) := by decide +kernel
theorem dX7_init_4 : decode cX7_init 4 = .ok (.aload_n 0, 1) := by decide +kernel
theorem dX7_init_5 : decode cX7_init 5 = .ok (.bipush 10, 2) := by decide +kernel
theorem dX7_init_7 : decode cX7_init 7 = .ok (.newarray .int, 2) := by decide +kernel
theorem dX7_init_9 : decode cX7_init 9 = .ok (.putfield 9, 3) := by decide +kernel
theorem dX7_init_12 : decode cX7_init 12 = .ok (.aload_n 0, 1) := by decide +kernel
theorem dX7_init_13 : decode cX7_init 13 = .ok (.bipush 72, 2) := by decide +kernel
theorem dX7_init_15 : decode cX7_init 15 = .ok (.newarray .int, 2) := by decide +kernel
theorem dX7_init_17 : decode cX7_init 17 = .ok (.putfield 15, 3) := by decide +kernel
theorem dX7_init_20 : decode cX7_init 20 = .ok (.aload_n 0, 1) := by decide +kernel
theorem dX7_init_21 : decode cX7_init 21 = .ok (.bipush 12, 2) := by decide +kernel
theorem dX7_init_23 : decode cX7_init 23 = .ok (.newarray .int, 2) := by decide +kernel
theorem dX7_init_25 : decode cX7_init 25 = .ok (.putfield 18, 3) := by decide +kernel
theorem dX7_init_28 : decode cX7_init 28 = .ok (.aload_n 0, 1) := by decide +kernel
theorem dX7_init_29 : decode cX7_init 29 = .ok (.bipush 8, 2) := by decide +kernel
theorem dX7_init_31 : decode cX7_init 31 = .ok (.newarray .int, 2) := by decide +kernel
theorem dX7_init_33 : decode cX7_init 33 = .ok (.putfield 21, 3) := by decide +kernel
theorem dX7_init_36 : decode cX7_init 36 = .ok (.aload_n 0, 1) := by decide +kernel
theorem dX7_init_37 : decode cX7_init 37 = .ok (.iload_n 1, 1) := by decide +kernel
theorem dX7_init_38 : decode cX7_init 38 = .ok (.putfield 24, 3) := by decide +kernel
theorem dX7_init_41 : decode cX7_init 41 = .ok (.return_, 1) := by decide +kernel
theorem dX7_beginWith_0 : decode cX7_beginWith 0 = .ok (.aload_n 0, 1) := by decide +kernel
theorem dX7_beginWith_1 : decode cX7_beginWith 1 = .ok (.getfield 9, 3) := by decide +kernel
theorem dX7_beginWith_4 : decode cX7_beginWith 4 = .ok (.iconst 0, 1) := by decide +kernel
theorem dX7_beginWith_5 : decode cX7_beginWith 5 = .ok (.invokestatic 28, 3) := by decide +kernel
theorem dX7_beginWith_8 : decode cX7_beginWith 8 = .ok (.aload_n 0, 1) := by decide +kernel
theorem dX7_beginWith_9 : decode cX7_beginWith 9 = .ok (.getfield 15, 3) := by decide +kernel
theorem dX7_beginWith_12 : decode cX7_beginWith 12 = .ok (.iconst 0, 1) := by decide +kernel
theorem dX7_beginWith_13 : decode cX7_beginWith 13 = .ok (.invokestatic 28, 3) := by decide +kernel
theorem dX7_beginWith_16 : decode cX7_beginWith 16 = .ok (.aload_n 0, 1) := by decide +kernel
theorem dX7_beginWith_17 : decode cX7_beginWith 17 = .ok (.getfield 21, 3) := by decide +kernel
theorem dX7_beginWith_20 : decode cX7_beginWith 20 = .ok (.iconst 0, 1) := by decide +kernel
theorem dX7_beginWith_21 : decode cX7_beginWith 21 = .ok (.invokestatic 28, 3) := by decide +kernel
theorem dX7_beginWith_24 : decode cX7_beginWith 24 = .ok (.iconst 0, 1) := by decide +kernel
theorem dX7_beginWith_25 : decode cX7_beginWith 25 = .ok (.istore_n 2, 1) := by decide +kernel
theorem dX7_beginWith_26 : decode cX7_beginWith 26 = .ok (.iload_n 2, 1) := by decide +kernel
theorem dX7_beginWith_27 : decode cX7_beginWith 27 = .ok (.aload_n 1, 1) := by decide +kernel
theorem dX7_beginWith_28 : decode cX7_beginWith 28 = .ok (.getfield 34, 3) := by decide +kernel
theorem dX7_beginWith_31 : decode cX7_beginWith 31 = .ok (.if_icmp .ge 38, 3) := by decide +kernel
theorem dX7_beginWith_34 : decode cX7_beginWith 34 = .ok (.aload_n 0, 1) := by decide +kernel
theorem dX7_beginWith_35 : decode cX7_beginWith 35 = .ok (.getfield 18, 3) := by decide +kernel
theorem dX7_beginWith_38 : decode cX7_beginWith 38 = .ok (.iload_n 2, 1) := by decide +kernel
theorem dX7_beginWith_39 : decode cX7_beginWith 39 = .ok (.aload_n 1, 1) := by decide +kernel
theorem dX7_beginWith_40 : decode cX7_beginWith 40 = .ok (.getfield 39, 3) := by decide +kernel
theorem dX7_beginWith_43 : decode cX7_beginWith 43 = .ok (.iload_n 2, 1) := by decide +kernel
theorem dX7_beginWith_44 : decode cX7_beginWith 44 = .ok (.iaload, 1) := by decide +kernel
theorem dX7_beginWith_45 : decode cX7_beginWith 45 = .ok (.iastore, 1) := by decide +kernel
theorem dX7_beginWith_46 : decode cX7_beginWith 46 = .ok (.aload_n 0, 1) := by decide +kernel
theorem dX7_beginWith_47 : decode cX7_beginWith 47 = .ok (.getfield 21, 3) := by decide +kernel
theorem dX7_beginWith_50 : decode cX7_beginWith 50 = .ok (.aload_n 0, 1) := by decide +kernel
theorem dX7_beginWith_51 : decode cX7_beginWith 51 = .ok (.getfield 18, 3) := by decide +kernel
theorem dX7_beginWith_54 : decode cX7_beginWith 54 = .ok (.iload_n 2, 1) := by decide +kernel
theorem dX7_beginWith_55 : decode cX7_beginWith 55 = .ok (.iaload, 1) := by decide +kernel
theorem dX7_beginWith_56 : decode cX7_beginWith 56 = .ok (.dup2, 1) := by decide +kernel
theorem dX7_beginWith_57 : decode cX7_beginWith 57 = .ok (.iaload, 1) := by decide +kernel
theorem dX7_beginWith_58 : decode cX7_beginWith 58 = .ok (.iconst 1, 1) := by decide +kernel
theorem dX7_beginWith_59 : decode cX7_beginWith 59 = .ok (.iload_n 2, 1) := by decide +kernel
theorem dX7_beginWith_60 : decode cX7_beginWith 60 = .ok (.ishl, 1) := by decide +kernel
theorem dX7_beginWith_61 : decode cX7_beginWith 61 = .ok (.ior, 1) := by decide +kernel
theorem dX7_beginWith_62 : decode cX7_beginWith 62 = .ok (.iastore, 1) := by decide +kernel
theorem dX7_beginWith_63 : decode cX7_beginWith 63 = .ok (.iinc 2 1, 3) := by decide +kernel
theorem dX7_beginWith_66 : decode cX7_beginWith 66 = .ok (.goto (-40), 3) := by decide +kernel
theorem dX7_beginWith_69 : decode cX7_beginWith 69 = .ok (.return_, 1) := by decide +kernel
theorem dX7_follow_0 : decode cX7_follow 0 = .ok (.aload_n 1, 1) := by decide +kernel
theorem dX7_follow_1 : decode cX7_follow 1 = .ok (.getfield 9, 3) := by decide +kernel
theorem dX7_follow_4 : decode cX7_follow 4 = .ok (.iconst 0, 1) := by decide +kernel
theorem dX7_follow_5 : decode cX7_follow 5 = .ok (.aload_n 0, 1) := by decide +kernel
theorem dX7_follow_6 : decode cX7_follow 6 = .ok (.getfield 9, 3) := by decide +kernel
theorem dX7_follow_9 : decode cX7_follow 9 = .ok (.iconst 0, 1) := by decide +kernel
theorem dX7_follow_10 : decode cX7_follow 10 = .ok (.bipush 10, 2) := by decide +kernel
theorem dX7_follow_12 : decode cX7_follow 12 = .ok (.invokestatic 42, 3) := by decide +kernel
theorem dX7_follow_15 : decode cX7_follow 15 = .ok (.aload_n 1, 1) := by decide +kernel
theorem dX7_follow_16 : decode cX7_follow 16 = .ok (.getfield 15, 3) := by decide +kernel
theorem dX7_follow_19 : decode cX7_follow 19 = .ok (.iconst 0, 1) := by decide +kernel
theorem dX7_follow_20 : decode cX7_follow 20 = .ok (.aload_n 0, 1) := by decide +kernel
theorem dX7_follow_21 : decode cX7_follow 21 = .ok (.getfield 15, 3) := by decide +kernel
theorem dX7_follow_24 : decode cX7_follow 24 = .ok (.iconst 0, 1) := by decide +kernel
theorem dX7_follow_25 : decode cX7_follow 25 = .ok (.bipush 72, 2) := by decide +kernel
theorem dX7_follow_27 : decode cX7_follow 27 = .ok (.invokestatic 42, 3) := by decide +kernel
theorem dX7_follow_30 : decode cX7_follow 30 = .ok (.aload_n 1, 1) := by decide +kernel
theorem dX7_follow_31 : decode cX7_follow 31 = .ok (.getfield 18, 3) := by decide +kernel
theorem dX7_follow_34 : decode cX7_follow 34 = .ok (.iconst 0, 1) := by decide +kernel
theorem dX7_follow_35 : decode cX7_follow 35 = .ok (.aload_n 0, 1) := by decide +kernel
theorem dX7_follow_36 : decode cX7_follow 36 = .ok (.getfield 18, 3) := by decide +kernel
theorem dX7_follow_39 : decode cX7_follow 39 = .ok (.iconst 0, 1) := by decide +kernel
theorem dX7_follow_40 : decode cX7_follow 40 = .ok (.bipush 12, 2) := by decide +kernel
theorem dX7_follow_42 : decode cX7_follow 42 = .ok (.invokestatic 42, 3) := by decide +kernel
theorem dX7_follow_45 : decode cX7_follow 45 = .ok (.aload_n 1, 1) := by decide +kernel
theorem dX7_follow_46 : decode cX7_follow 46 = .ok (.getfield 21, 3) := by decide +kernel
theorem dX7_follow_49 : decode cX7_follow 49 = .ok (.iconst 0, 1) := by decide +kernel
theorem dX7_follow_50 : decode cX7_follow 50 = .ok (.aload_n 0, 1) := by decide +kernel
theorem dX7_follow_51 : decode cX7_follow 51 = .ok (.getfield 21, 3) := by decide +kernel
theorem dX7_follow_54 : decode cX7_follow 54 = .ok (.iconst 0, 1) := by decide +kernel
theorem dX7_follow_55 : decode cX7_follow 55 = .ok (.bipush 8, 2) := by decide +kernel
theorem dX7_follow_57 : decode cX7_follow 57 = .ok (.invokestatic 42, 3) := by decide +kernel
theorem dX7_follow_60 : decode cX7_follow 60 = .ok (.iload_n 2, 1) := by decide +kernel
theorem dX7_follow_61 : decode cX7_follow 61 = .ok (.bipush 13, 2) := by decide +kernel
theorem dX7_follow_63 : decode cX7_follow 63 = .ok (.ishr, 1) := by decide +kernel
theorem dX7_follow_64 : decode cX7_follow 64 = .ok (.iconst 3, 1) := by decide +kernel
theorem dX7_follow_65 : decode cX7_follow 65 = .ok (.iand, 1) := by decide +kernel
theorem dX7_follow_66 : decode cX7_follow 66 = .ok (.istore_n 3, 1) := by decide +kernel
theorem dX7_follow_67 : decode cX7_follow 67 = .ok (.iload_n 2, 1) := by decide +kernel
theorem dX7_follow_68 : decode cX7_follow 68 = .ok (.bipush 9, 2) := by decide +kernel
theorem dX7_follow_70 : decode cX7_follow 70 = .ok (.ishr, 1) := by decide +kernel
theorem dX7_follow_71 : decode cX7_follow 71 = .ok (.bipush 15, 2) := by decide +kernel
theorem dX7_follow_73 : decode cX7_follow 73 = .ok (.iand, 1) := by decide +kernel
theorem dX7_follow_74 : decode cX7_follow 74 = .ok (.istore 4, 2) := by decide +kernel
theorem dX7_follow_76 : decode cX7_follow 76 = .ok (.iload_n 2, 1) := by decide +kernel
theorem dX7_follow_77 : decode cX7_follow 77 = .ok (.iconst 5, 1) := by decide +kernel
theorem dX7_follow_78 : decode cX7_follow 78 = .ok (.ishr, 1) := by decide +kernel
theorem dX7_follow_79 : decode cX7_follow 79 = .ok (.bipush 15, 2) := by decide +kernel
theorem dX7_follow_81 : decode cX7_follow 81 = .ok (.iand, 1) := by decide +kernel
theorem dX7_follow_82 : decode cX7_follow 82 = .ok (.istore 5, 2) := by decide +kernel
theorem dX7_follow_84 : decode cX7_follow 84 = .ok (.iload_n 2, 1) := by decide +kernel
theorem dX7_follow_85 : decode cX7_follow 85 = .ok (.iconst 1, 1) := by decide +kernel
theorem dX7_follow_86 : decode cX7_follow 86 = .ok (.ishr, 1) := by decide +kernel
theorem dX7_follow_87 : decode cX7_follow 87 = .ok (.bipush 15, 2) := by decide +kernel
theorem dX7_follow_89 : decode cX7_follow 89 = .ok (.iand, 1) := by decide +kernel
theorem dX7_follow_90 : decode cX7_follow 90 = .ok (.istore 6, 2) := by decide +kernel
theorem dX7_follow_92 : decode cX7_follow 92 = .ok (.iload_n 2, 1) := by decide +kernel
theorem dX7_follow_93 : decode cX7_follow 93 = .ok (.iconst 1, 1) := by decide +kernel
theorem dX7_follow_94 : decode cX7_follow 94 = .ok (.iand, 1) := by decide +kernel
theorem dX7_follow_95 : decode cX7_follow 95 = .ok (.iconst 1, 1) := by decide +kernel
theorem dX7_follow_96 : decode cX7_follow 96 = .ok (.if_icmp .ne 7, 3) := by decide +kernel
theorem dX7_follow_99 : decode cX7_follow 99 = .ok (.iconst 1, 1) := by decide +kernel
theorem dX7_follow_100 : decode cX7_follow 100 = .ok (.goto 4, 3) := by decide +kernel
theorem dX7_follow_103 : decode cX7_follow 103 = .ok (.iconst 0, 1) := by decide +kernel
theorem dX7_follow_104 : decode cX7_follow 104 = .ok (.istore 7, 2) := by decide +kernel
theorem dX7_follow_106 : decode cX7_follow 106 = .ok (.iload_n 3, 1) := by decide +kernel
theorem dX7_follow_107 : decode cX7_follow 107 = .ok (.ifCond .ne 47, 3) := by decide +kernel
theorem dX7_follow_110 : decode cX7_follow 110 = .ok (.aload_n 0, 1) := by decide +kernel
theorem dX7_follow_111 : decode cX7_follow 111 = .ok (.getfield 9, 3) := by decide +kernel
theorem dX7_follow_114 : decode cX7_follow 114 = .ok (.iload 5, 2) := by decide +kernel
theorem dX7_follow_116 : decode cX7_follow 116 = .ok (.iload 7, 2) := by decide +kernel
theorem dX7_follow_118 : decode cX7_follow 118 = .ok (.ifCond .eq 18, 3) := by decide +kernel
theorem dX7_follow_121 : decode cX7_follow 121 = .ok (.aload_n 0, 1) := by decide +kernel
theorem dX7_follow_122 : decode cX7_follow 122 = .ok (.getfield 9, 3) := by decide +kernel
theorem dX7_follow_125 : decode cX7_follow 125 = .ok (.iload 5, 2) := by decide +kernel
theorem dX7_follow_127 : decode cX7_follow 127 = .ok (.iaload, 1) := by decide +kernel
theorem dX7_follow_128 : decode cX7_follow 128 = .ok (.iconst 1, 1) := by decide +kernel
theorem dX7_follow_129 : decode cX7_follow 129 = .ok (.iload 4, 2) := by decide +kernel
theorem dX7_follow_131 : decode cX7_follow 131 = .ok (.ishl, 1) := by decide +kernel
theorem dX7_follow_132 : decode cX7_follow 132 = .ok (.ior, 1) := by decide +kernel
theorem dX7_follow_133 : decode cX7_follow 133 = .ok (.goto 17, 3) := by decide +kernel
theorem dX7_follow_136 : decode cX7_follow 136 = .ok (.aload_n 0, 1) := by decide +kernel
theorem dX7_follow_137 : decode cX7_follow 137 = .ok (.getfield 9, 3) := by decide +kernel
theorem dX7_follow_140 : decode cX7_follow 140 = .ok (.iload 5, 2) := by decide +kernel
theorem dX7_follow_142 : decode cX7_follow 142 = .ok (.iaload, 1) := by decide +kernel
theorem dX7_follow_143 : decode cX7_follow 143 = .ok (.iconst 1, 1) := by decide +kernel
theorem dX7_follow_144 : decode cX7_follow 144 = .ok (.iload 4, 2) := by decide +kernel
theorem dX7_follow_146 : decode cX7_follow 146 = .ok (.ishl, 1) := by decide +kernel
theorem dX7_follow_147 : decode cX7_follow 147 = .ok (.iconst (-1), 1) := by decide +kernel
theorem dX7_follow_148 : decode cX7_follow 148 = .ok (.ixor, 1) := by decide +kernel
theorem dX7_follow_149 : decode cX7_follow 149 = .ok (.iand, 1) := by decide +kernel
theorem dX7_follow_150 : decode cX7_follow 150 = .ok (.iastore, 1) := by decide +kernel
theorem dX7_follow_151 : decode cX7_follow 151 = .ok (.goto 106, 3) := by decide +kernel
theorem dX7_follow_154 : decode cX7_follow 154 = .ok (.iload_n 3, 1) := by decide +kernel
theorem dX7_follow_155 : decode cX7_follow 155 = .ok (.iconst 1, 1) := by decide +kernel
theorem dX7_follow_156 : decode cX7_follow 156 = .ok (.if_icmp .ne 57, 3) := by decide +kernel
theorem dX7_follow_159 : decode cX7_follow 159 = .ok (.iload 5, 2) := by decide +kernel
theorem dX7_follow_161 : decode cX7_follow 161 = .ok (.bipush 12, 2) := by decide +kernel
theorem dX7_follow_163 : decode cX7_follow 163 = .ok (.imul, 1) := by decide +kernel
theorem dX7_follow_164 : decode cX7_follow 164 = .ok (.iload 4, 2) := by decide +kernel
theorem dX7_follow_166 : decode cX7_follow 166 = .ok (.iadd, 1) := by decide +kernel
theorem dX7_follow_167 : decode cX7_follow 167 = .ok (.istore 8, 2) := by decide +kernel
theorem dX7_follow_169 : decode cX7_follow 169 = .ok (.aload_n 0, 1) := by decide +kernel
theorem dX7_follow_170 : decode cX7_follow 170 = .ok (.getfield 15, 3) := by decide +kernel
theorem dX7_follow_173 : decode cX7_follow 173 = .ok (.iload 8, 2) := by decide +kernel
theorem dX7_follow_175 : decode cX7_follow 175 = .ok (.iload 7, 2) := by decide +kernel
theorem dX7_follow_177 : decode cX7_follow 177 = .ok (.ifCond .eq 18, 3) := by decide +kernel
theorem dX7_follow_180 : decode cX7_follow 180 = .ok (.aload_n 0, 1) := by decide +kernel
theorem dX7_follow_181 : decode cX7_follow 181 = .ok (.getfield 15, 3) := by decide +kernel
theorem dX7_follow_184 : decode cX7_follow 184 = .ok (.iload 8, 2) := by decide +kernel
theorem dX7_follow_186 : decode cX7_follow 186 = .ok (.iaload, 1) := by decide +kernel
theorem dX7_follow_187 : decode cX7_follow 187 = .ok (.iconst 1, 1) := by decide +kernel
theorem dX7_follow_188 : decode cX7_follow 188 = .ok (.iload 6, 2) := by decide +kernel
theorem dX7_follow_190 : decode cX7_follow 190 = .ok (.ishl, 1) := by decide +kernel
theorem dX7_follow_191 : decode cX7_follow 191 = .ok (.ior, 1) := by decide +kernel
theorem dX7_follow_192 : decode cX7_follow 192 = .ok (.goto 17, 3) := by decide +kernel
theorem dX7_follow_195 : decode cX7_follow 195 = .ok (.aload_n 0, 1) := by decide +kernel
theorem dX7_follow_196 : decode cX7_follow 196 = .ok (.getfield 15, 3) := by decide +kernel
theorem dX7_follow_199 : decode cX7_follow 199 = .ok (.iload 8, 2) := by decide +kernel
theorem dX7_follow_201 : decode cX7_follow 201 = .ok (.iaload, 1) := by decide +kernel
theorem dX7_follow_202 : decode cX7_follow 202 = .ok (.iconst 1, 1) := by decide +kernel
theorem dX7_follow_203 : decode cX7_follow 203 = .ok (.iload 6, 2) := by decide +kernel
theorem dX7_follow_205 : decode cX7_follow 205 = .ok (.ishl, 1) := by decide +kernel
theorem dX7_follow_206 : decode cX7_follow 206 = .ok (.iconst (-1), 1) := by decide +kernel
theorem dX7_follow_207 : decode cX7_follow 207 = .ok (.ixor, 1) := by decide +kernel
theorem dX7_follow_208 : decode cX7_follow 208 = .ok (.iand, 1) := by decide +kernel
theorem dX7_follow_209 : decode cX7_follow 209 = .ok (.iastore, 1) := by decide +kernel
theorem dX7_follow_210 : decode cX7_follow 210 = .ok (.goto 47, 3) := by decide +kernel
theorem dX7_follow_213 : decode cX7_follow 213 = .ok (.aload_n 0, 1) := by decide +kernel
theorem dX7_follow_214 : decode cX7_follow 214 = .ok (.getfield 21, 3) := by decide +kernel
theorem dX7_follow_217 : decode cX7_follow 217 = .ok (.aload_n 0, 1) := by decide +kernel
theorem dX7_follow_218 : decode cX7_follow 218 = .ok (.getfield 18, 3) := by decide +kernel
theorem dX7_follow_221 : decode cX7_follow 221 = .ok (.iload 4, 2) := by decide +kernel
theorem dX7_follow_223 : decode cX7_follow 223 = .ok (.iaload, 1) := by decide +kernel
theorem dX7_follow_224 : decode cX7_follow 224 = .ok (.dup2, 1) := by decide +kernel
theorem dX7_follow_225 : decode cX7_follow 225 = .ok (.iaload, 1) := by decide +kernel
theorem dX7_follow_226 : decode cX7_follow 226 = .ok (.iconst 1, 1) := by decide +kernel
theorem dX7_follow_227 : decode cX7_follow 227 = .ok (.iload 4, 2) := by decide +kernel
theorem dX7_follow_229 : decode cX7_follow 229 = .ok (.ishl, 1) := by decide +kernel
theorem dX7_follow_230 : decode cX7_follow 230 = .ok (.iconst (-1), 1) := by decide +kernel
theorem dX7_follow_231 : decode cX7_follow 231 = .ok (.ixor, 1) := by decide +kernel
theorem dX7_follow_232 : decode cX7_follow 232 = .ok (.iand, 1) := by decide +kernel
theorem dX7_follow_233 : decode cX7_follow 233 = .ok (.iastore, 1) := by decide +kernel
theorem dX7_follow_234 : decode cX7_follow 234 = .ok (.aload_n 0, 1) := by decide +kernel
theorem dX7_follow_235 : decode cX7_follow 235 = .ok (.getfield 18, 3) := by decide +kernel
theorem dX7_follow_238 : decode cX7_follow 238 = .ok (.iload 4, 2) := by decide +kernel
theorem dX7_follow_240 : decode cX7_follow 240 = .ok (.iload 5, 2) := by decide +kernel
theorem dX7_follow_242 : decode cX7_follow 242 = .ok (.iastore, 1) := by decide +kernel
theorem dX7_follow_243 : decode cX7_follow 243 = .ok (.aload_n 0, 1) := by decide +kernel
theorem dX7_follow_244 : decode cX7_follow 244 = .ok (.getfield 21, 3) := by decide +kernel
theorem dX7_follow_247 : decode cX7_follow 247 = .ok (.iload 5, 2) := by decide +kernel
theorem dX7_follow_249 : decode cX7_follow 249 = .ok (.dup2, 1) := by decide +kernel
theorem dX7_follow_250 : decode cX7_follow 250 = .ok (.iaload, 1) := by decide +kernel
theorem dX7_follow_251 : decode cX7_follow 251 = .ok (.iconst 1, 1) := by decide +kernel
theorem dX7_follow_252 : decode cX7_follow 252 = .ok (.iload 4, 2) := by decide +kernel
theorem dX7_follow_254 : decode cX7_follow 254 = .ok (.ishl, 1) := by decide +kernel
theorem dX7_follow_255 : decode cX7_follow 255 = .ok (.ior, 1) := by decide +kernel
theorem dX7_follow_256 : decode cX7_follow 256 = .ok (.iastore, 1) := by decide +kernel
theorem dX7_follow_257 : decode cX7_follow 257 = .ok (.return_, 1) := by decide +kernel
theorem dX7_marksOf_0 : decode cX7_marksOf 0 = .ok (.iconst 0, 1) := by decide +kernel
theorem dX7_marksOf_1 : decode cX7_marksOf 1 = .ok (.istore_n 2, 1) := by decide +kernel
theorem dX7_marksOf_2 : decode cX7_marksOf 2 = .ok (.iconst 0, 1) := by decide +kernel
theorem dX7_marksOf_3 : decode cX7_marksOf 3 = .ok (.istore_n 3, 1) := by decide +kernel
theorem dX7_marksOf_4 : decode cX7_marksOf 4 = .ok (.iload_n 3, 1) := by decide +kernel
theorem dX7_marksOf_5 : decode cX7_marksOf 5 = .ok (.bipush 10, 2) := by decide +kernel
theorem dX7_marksOf_7 : decode cX7_marksOf 7 = .ok (.if_icmp .ge 24, 3) := by decide +kernel
theorem dX7_marksOf_10 : decode cX7_marksOf 10 = .ok (.iload_n 2, 1) := by decide +kernel
theorem dX7_marksOf_11 : decode cX7_marksOf 11 = .ok (.aload_n 0, 1) := by decide +kernel
theorem dX7_marksOf_12 : decode cX7_marksOf 12 = .ok (.getfield 9, 3) := by decide +kernel
theorem dX7_marksOf_15 : decode cX7_marksOf 15 = .ok (.iload_n 3, 1) := by decide +kernel
theorem dX7_marksOf_16 : decode cX7_marksOf 16 = .ok (.iaload, 1) := by decide +kernel
theorem dX7_marksOf_17 : decode cX7_marksOf 17 = .ok (.iload_n 1, 1) := by decide +kernel
theorem dX7_marksOf_18 : decode cX7_marksOf 18 = .ok (.ishr, 1) := by decide +kernel
theorem dX7_marksOf_19 : decode cX7_marksOf 19 = .ok (.iconst 1, 1) := by decide +kernel
theorem dX7_marksOf_20 : decode cX7_marksOf 20 = .ok (.iand, 1) := by decide +kernel
theorem dX7_marksOf_21 : decode cX7_marksOf 21 = .ok (.iload_n 3, 1) := by decide +kernel
theorem dX7_marksOf_22 : decode cX7_marksOf 22 = .ok (.ishl, 1) := by decide +kernel
theorem dX7_marksOf_23 : decode cX7_marksOf 23 = .ok (.ior, 1) := by decide +kernel
theorem dX7_marksOf_24 : decode cX7_marksOf 24 = .ok (.istore_n 2, 1) := by decide +kernel
theorem dX7_marksOf_25 : decode cX7_marksOf 25 = .ok (.iinc 3 1, 3) := by decide +kernel
theorem dX7_marksOf_28 : decode cX7_marksOf 28 = .ok (.goto (-24), 3) := by decide +kernel
theorem dX7_marksOf_31 : decode cX7_marksOf 31 = .ok (.iload_n 2, 1) := by decide +kernel
theorem dX7_marksOf_32 : decode cX7_marksOf 32 = .ok (.ireturn, 1) := by decide +kernel
theorem dX7_wordsOf_0 : decode cX7_wordsOf 0 = .ok (.aload_n 0, 1) := by decide +kernel
theorem dX7_wordsOf_1 : decode cX7_wordsOf 1 = .ok (.iload_n 1, 1) := by decide +kernel
theorem dX7_wordsOf_2 : decode cX7_wordsOf 2 = .ok (.invokevirtual 48, 3) := by decide +kernel
theorem dX7_wordsOf_5 : decode cX7_wordsOf 5 = .ok (.istore_n 3, 1) := by decide +kernel
theorem dX7_wordsOf_6 : decode cX7_wordsOf 6 = .ok (.iconst 0, 1) := by decide +kernel
theorem dX7_wordsOf_7 : decode cX7_wordsOf 7 = .ok (.istore 4, 2) := by decide +kernel
theorem dX7_wordsOf_9 : decode cX7_wordsOf 9 = .ok (.iload 4, 2) := by decide +kernel
theorem dX7_wordsOf_11 : decode cX7_wordsOf 11 = .ok (.bipush 6, 2) := by decide +kernel
theorem dX7_wordsOf_13 : decode cX7_wordsOf 13 = .ok (.if_icmp .ge 34, 3) := by decide +kernel
theorem dX7_wordsOf_16 : decode cX7_wordsOf 16 = .ok (.iload_n 3, 1) := by decide +kernel
theorem dX7_wordsOf_17 : decode cX7_wordsOf 17 = .ok (.aload_n 0, 1) := by decide +kernel
theorem dX7_wordsOf_18 : decode cX7_wordsOf 18 = .ok (.getfield 15, 3) := by decide +kernel
theorem dX7_wordsOf_21 : decode cX7_wordsOf 21 = .ok (.iload 4, 2) := by decide +kernel
theorem dX7_wordsOf_23 : decode cX7_wordsOf 23 = .ok (.bipush 12, 2) := by decide +kernel
theorem dX7_wordsOf_25 : decode cX7_wordsOf 25 = .ok (.imul, 1) := by decide +kernel
theorem dX7_wordsOf_26 : decode cX7_wordsOf 26 = .ok (.iload_n 1, 1) := by decide +kernel
theorem dX7_wordsOf_27 : decode cX7_wordsOf 27 = .ok (.iadd, 1) := by decide +kernel
theorem dX7_wordsOf_28 : decode cX7_wordsOf 28 = .ok (.iaload, 1) := by decide +kernel
theorem dX7_wordsOf_29 : decode cX7_wordsOf 29 = .ok (.iload_n 2, 1) := by decide +kernel
theorem dX7_wordsOf_30 : decode cX7_wordsOf 30 = .ok (.ishr, 1) := by decide +kernel
theorem dX7_wordsOf_31 : decode cX7_wordsOf 31 = .ok (.iconst 1, 1) := by decide +kernel
theorem dX7_wordsOf_32 : decode cX7_wordsOf 32 = .ok (.iand, 1) := by decide +kernel
theorem dX7_wordsOf_33 : decode cX7_wordsOf 33 = .ok (.bipush 10, 2) := by decide +kernel
theorem dX7_wordsOf_35 : decode cX7_wordsOf 35 = .ok (.iload 4, 2) := by decide +kernel
theorem dX7_wordsOf_37 : decode cX7_wordsOf 37 = .ok (.iadd, 1) := by decide +kernel
theorem dX7_wordsOf_38 : decode cX7_wordsOf 38 = .ok (.ishl, 1) := by decide +kernel
theorem dX7_wordsOf_39 : decode cX7_wordsOf 39 = .ok (.ior, 1) := by decide +kernel
theorem dX7_wordsOf_40 : decode cX7_wordsOf 40 = .ok (.istore_n 3, 1) := by decide +kernel
theorem dX7_wordsOf_41 : decode cX7_wordsOf 41 = .ok (.iinc 4 1, 3) := by decide +kernel
theorem dX7_wordsOf_44 : decode cX7_wordsOf 44 = .ok (.goto (-35), 3) := by decide +kernel
theorem dX7_wordsOf_47 : decode cX7_wordsOf 47 = .ok (.iload_n 3, 1) := by decide +kernel
theorem dX7_wordsOf_48 : decode cX7_wordsOf 48 = .ok (.ireturn, 1) := by decide +kernel
theorem dX7_wordHolders_0 : decode cX7_wordHolders 0 = .ok (.iload_n 1, 1) := by decide +kernel
theorem dX7_wordHolders_1 : decode cX7_wordHolders 1 = .ok (.bipush 10, 2) := by decide +kernel
theorem dX7_wordHolders_3 : decode cX7_wordHolders 3 = .ok (.if_icmp .ge 10, 3) := by decide +kernel
theorem dX7_wordHolders_6 : decode cX7_wordHolders 6 = .ok (.aload_n 0, 1) := by decide +kernel
theorem dX7_wordHolders_7 : decode cX7_wordHolders 7 = .ok (.getfield 9, 3) := by decide +kernel
theorem dX7_wordHolders_10 : decode cX7_wordHolders 10 = .ok (.iload_n 1, 1) := by decide +kernel
theorem dX7_wordHolders_11 : decode cX7_wordHolders 11 = .ok (.iaload, 1) := by decide +kernel
theorem dX7_wordHolders_12 : decode cX7_wordHolders 12 = .ok (.ireturn, 1) := by decide +kernel
theorem dX7_wordHolders_13 : decode cX7_wordHolders 13 = .ok (.iconst 0, 1) := by decide +kernel
theorem dX7_wordHolders_14 : decode cX7_wordHolders 14 = .ok (.istore_n 3, 1) := by decide +kernel
theorem dX7_wordHolders_15 : decode cX7_wordHolders 15 = .ok (.iconst 0, 1) := by decide +kernel
theorem dX7_wordHolders_16 : decode cX7_wordHolders 16 = .ok (.istore 4, 2) := by decide +kernel
theorem dX7_wordHolders_18 : decode cX7_wordHolders 18 = .ok (.iload 4, 2) := by decide +kernel
theorem dX7_wordHolders_20 : decode cX7_wordHolders 20 = .ok (.bipush 12, 2) := by decide +kernel
theorem dX7_wordHolders_22 : decode cX7_wordHolders 22 = .ok (.if_icmp .ge 34, 3) := by decide +kernel
theorem dX7_wordHolders_25 : decode cX7_wordHolders 25 = .ok (.iload_n 3, 1) := by decide +kernel
theorem dX7_wordHolders_26 : decode cX7_wordHolders 26 = .ok (.aload_n 0, 1) := by decide +kernel
theorem dX7_wordHolders_27 : decode cX7_wordHolders 27 = .ok (.getfield 15, 3) := by decide +kernel
theorem dX7_wordHolders_30 : decode cX7_wordHolders 30 = .ok (.iload_n 1, 1) := by decide +kernel
theorem dX7_wordHolders_31 : decode cX7_wordHolders 31 = .ok (.bipush 10, 2) := by decide +kernel
theorem dX7_wordHolders_33 : decode cX7_wordHolders 33 = .ok (.isub, 1) := by decide +kernel
theorem dX7_wordHolders_34 : decode cX7_wordHolders 34 = .ok (.bipush 12, 2) := by decide +kernel
theorem dX7_wordHolders_36 : decode cX7_wordHolders 36 = .ok (.imul, 1) := by decide +kernel
theorem dX7_wordHolders_37 : decode cX7_wordHolders 37 = .ok (.iload 4, 2) := by decide +kernel
theorem dX7_wordHolders_39 : decode cX7_wordHolders 39 = .ok (.iadd, 1) := by decide +kernel
theorem dX7_wordHolders_40 : decode cX7_wordHolders 40 = .ok (.iaload, 1) := by decide +kernel
theorem dX7_wordHolders_41 : decode cX7_wordHolders 41 = .ok (.iload_n 2, 1) := by decide +kernel
theorem dX7_wordHolders_42 : decode cX7_wordHolders 42 = .ok (.ishr, 1) := by decide +kernel
theorem dX7_wordHolders_43 : decode cX7_wordHolders 43 = .ok (.iconst 1, 1) := by decide +kernel
theorem dX7_wordHolders_44 : decode cX7_wordHolders 44 = .ok (.iand, 1) := by decide +kernel
theorem dX7_wordHolders_45 : decode cX7_wordHolders 45 = .ok (.iload 4, 2) := by decide +kernel
theorem dX7_wordHolders_47 : decode cX7_wordHolders 47 = .ok (.ishl, 1) := by decide +kernel
theorem dX7_wordHolders_48 : decode cX7_wordHolders 48 = .ok (.ior, 1) := by decide +kernel
theorem dX7_wordHolders_49 : decode cX7_wordHolders 49 = .ok (.istore_n 3, 1) := by decide +kernel
theorem dX7_wordHolders_50 : decode cX7_wordHolders 50 = .ok (.iinc 4 1, 3) := by decide +kernel
theorem dX7_wordHolders_53 : decode cX7_wordHolders 53 = .ok (.goto (-35), 3) := by decide +kernel
theorem dX7_wordHolders_56 : decode cX7_wordHolders 56 = .ok (.iload_n 3, 1) := by decide +kernel
theorem dX7_wordHolders_57 : decode cX7_wordHolders 57 = .ok (.ireturn, 1) := by decide +kernel
theorem dX7_seenFrom_0 : decode cX7_seenFrom 0 = .ok (.iconst 1, 1) := by decide +kernel
theorem dX7_seenFrom_1 : decode cX7_seenFrom 1 = .ok (.iload_n 1, 1) := by decide +kernel
theorem dX7_seenFrom_2 : decode cX7_seenFrom 2 = .ok (.ishl, 1) := by decide +kernel
theorem dX7_seenFrom_3 : decode cX7_seenFrom 3 = .ok (.iload_n 2, 1) := by decide +kernel
theorem dX7_seenFrom_4 : decode cX7_seenFrom 4 = .ok (.ior, 1) := by decide +kernel
theorem dX7_seenFrom_5 : decode cX7_seenFrom 5 = .ok (.aload_n 0, 1) := by decide +kernel
theorem dX7_seenFrom_6 : decode cX7_seenFrom 6 = .ok (.getfield 21, 3) := by decide +kernel
theorem dX7_seenFrom_9 : decode cX7_seenFrom 9 = .ok (.aload_n 0, 1) := by decide +kernel
theorem dX7_seenFrom_10 : decode cX7_seenFrom 10 = .ok (.getfield 18, 3) := by decide +kernel
theorem dX7_seenFrom_13 : decode cX7_seenFrom 13 = .ok (.iload_n 1, 1) := by decide +kernel
theorem dX7_seenFrom_14 : decode cX7_seenFrom 14 = .ok (.iaload, 1) := by decide +kernel
theorem dX7_seenFrom_15 : decode cX7_seenFrom 15 = .ok (.iaload, 1) := by decide +kernel
theorem dX7_seenFrom_16 : decode cX7_seenFrom 16 = .ok (.ior, 1) := by decide +kernel
theorem dX7_seenFrom_17 : decode cX7_seenFrom 17 = .ok (.ireturn, 1) := by decide +kernel
theorem dX8_init_0 : decode cX8_init 0 = .ok (.aload_n 0, 1) := by decide +kernel
theorem dX8_init_1 : decode cX8_init 1 = .ok (.invokespecial 3, 3) := by decide +kernel
theorem dX8_init_4 : decode cX8_init 4 = .ok (.aload_n 0, 1) := by decide +kernel
theorem dX8_init_5 : decode cX8_init 5 = .ok (.bipush 12, 2) := by decide +kernel
theorem dX8_init_7 : decode cX8_init 7 = .ok (.newarray .int, 2) := by decide +kernel
theorem dX8_init_9 : decode cX8_init 9 = .ok (.putfield 9, 3) := by decide +kernel
theorem dX8_init_12 : decode cX8_init 12 = .ok (.aload_n 0, 1) := by decide +kernel
theorem dX8_init_13 : decode cX8_init 13 = .ok (.bipush 64, 2) := by decide +kernel
theorem dX8_init_15 : decode cX8_init 15 = .ok (.newarray .int, 2) := by decide +kernel
theorem dX8_init_17 : decode cX8_init 17 = .ok (.putfield 15, 3) := by decide +kernel
theorem dX8_init_20 : decode cX8_init 20 = .ok (.aload_n 0, 1) := by decide +kernel
theorem dX8_init_21 : decode cX8_init 21 = .ok (.bipush 60, 2) := by decide +kernel
theorem dX8_init_23 : decode cX8_init 23 = .ok (.newarray .int, 2) := by decide +kernel
theorem dX8_init_25 : decode cX8_init 25 = .ok (.putfield 18, 3) := by decide +kernel
theorem dX8_init_28 : decode cX8_init 28 = .ok (.aload_n 0, 1) := by decide +kernel
theorem dX8_init_29 : decode cX8_init 29 = .ok (.bipush 12, 2) := by decide +kernel
theorem dX8_init_31 : decode cX8_init 31 = .ok (.newarray .int, 2) := by decide +kernel
theorem dX8_init_33 : decode cX8_init 33 = .ok (.putfield 21, 3) := by decide +kernel
theorem dX8_init_36 : decode cX8_init 36 = .ok (.aload_n 0, 1) := by decide +kernel
theorem dX8_init_37 : decode cX8_init 37 = .ok (.bipush 17, 2) := by decide +kernel
theorem dX8_init_39 : decode cX8_init 39 = .ok (.newarray .int, 2) := by decide +kernel
theorem dX8_init_41 : decode cX8_init 41 = .ok (.putfield 24, 3) := by decide +kernel
theorem dX8_init_44 : decode cX8_init 44 = .ok (.aload_n 0, 1) := by decide +kernel
theorem dX8_init_45 : decode cX8_init 45 = .ok (.bipush 8, 2) := by decide +kernel
theorem dX8_init_47 : decode cX8_init 47 = .ok (.anewarray 27, 3) := by decide +kernel
theorem dX8_init_50 : decode cX8_init 50 = .ok (.putfield 29, 3) := by decide +kernel
theorem dX8_init_53 : decode cX8_init 53 = .ok (.aload_n 0, 1) := by decide +kernel
theorem dX8_init_54 : decode cX8_init 54 = .ok (.bipush 20, 2) := by decide +kernel
theorem dX8_init_56 : decode cX8_init 56 = .ok (.newarray .int, 2) := by decide +kernel
theorem dX8_init_58 : decode cX8_init 58 = .ok (.putfield 33, 3) := by decide +kernel
theorem dX8_init_61 : decode cX8_init 61 = .ok (.aload_n 0, 1) := by decide +kernel
theorem dX8_init_62 : decode cX8_init 62 = .ok (.getfield 24, 3) := by decide +kernel
theorem dX8_init_65 : decode cX8_init 65 = .ok (.iconst 1, 1) := by decide +kernel
theorem dX8_init_66 : decode cX8_init 66 = .ok (.invokestatic 36, 3) := by decide +kernel
theorem dX8_init_69 : decode cX8_init 69 = .ok (.iconst 0, 1) := by decide +kernel
theorem dX8_init_70 : decode cX8_init 70 = .ok (.istore_n 1, 1) := by decide +kernel
theorem dX8_init_71 : decode cX8_init 71 = .ok (.iload_n 1, 1) := by decide +kernel
theorem dX8_init_72 : decode cX8_init 72 = .ok (.bipush 8, 2) := by decide +kernel
theorem dX8_init_74 : decode cX8_init 74 = .ok (.if_icmp .ge 22, 3) := by decide +kernel
theorem dX8_init_77 : decode cX8_init 77 = .ok (.aload_n 0, 1) := by decide +kernel
theorem dX8_init_78 : decode cX8_init 78 = .ok (.getfield 29, 3) := by decide +kernel
theorem dX8_init_81 : decode cX8_init 81 = .ok (.iload_n 1, 1) := by decide +kernel
theorem dX8_init_82 : decode cX8_init 82 = .ok (.new 27, 3) := by decide +kernel
theorem dX8_init_85 : decode cX8_init 85 = .ok (.dup, 1) := by decide +kernel
theorem dX8_init_86 : decode cX8_init 86 = .ok (.invokespecial 42, 3) := by decide +kernel
theorem dX8_init_89 : decode cX8_init 89 = .ok (.aastore, 1) := by decide +kernel
theorem dX8_init_90 : decode cX8_init 90 = .ok (.iinc 1 1, 3) := by decide +kernel
theorem dX8_init_93 : decode cX8_init 93 = .ok (.goto (-22), 3) := by decide +kernel
theorem dX8_init_96 : decode cX8_init 96 = .ok (.return_, 1) := by decide +kernel
theorem dX8_copyFrom_0 : decode cX8_copyFrom 0 = .ok (.aload_n 0, 1) := by decide +kernel
theorem dX8_copyFrom_1 : decode cX8_copyFrom 1 = .ok (.aload_n 1, 1) := by decide +kernel
theorem dX8_copyFrom_2 : decode cX8_copyFrom 2 = .ok (.getfield 43, 3) := by decide +kernel
theorem dX8_copyFrom_5 : decode cX8_copyFrom 5 = .ok (.putfield 43, 3) := by decide +kernel
theorem dX8_copyFrom_8 : decode cX8_copyFrom 8 = .ok (.aload_n 0, 1) := by decide +kernel
theorem dX8_copyFrom_9 : decode cX8_copyFrom 9 = .ok (.aload_n 1, 1) := by decide +kernel
theorem dX8_copyFrom_10 : decode cX8_copyFrom 10 = .ok (.getfield 47, 3) := by decide +kernel
theorem dX8_copyFrom_13 : decode cX8_copyFrom 13 = .ok (.putfield 47, 3) := by decide +kernel
theorem dX8_copyFrom_16 : decode cX8_copyFrom 16 = .ok (.aload_n 0, 1) := by decide +kernel
theorem dX8_copyFrom_17 : decode cX8_copyFrom 17 = .ok (.aload_n 1, 1) := by decide +kernel
theorem dX8_copyFrom_18 : decode cX8_copyFrom 18 = .ok (.getfield 50, 3) := by decide +kernel
theorem dX8_copyFrom_21 : decode cX8_copyFrom 21 = .ok (.putfield 50, 3) := by decide +kernel
theorem dX8_copyFrom_24 : decode cX8_copyFrom 24 = .ok (.aload_n 0, 1) := by decide +kernel
theorem dX8_copyFrom_25 : decode cX8_copyFrom 25 = .ok (.aload_n 1, 1) := by decide +kernel
theorem dX8_copyFrom_26 : decode cX8_copyFrom 26 = .ok (.getfield 53, 3) := by decide +kernel
theorem dX8_copyFrom_29 : decode cX8_copyFrom 29 = .ok (.putfield 53, 3) := by decide +kernel
theorem dX8_copyFrom_32 : decode cX8_copyFrom 32 = .ok (.aload_n 0, 1) := by decide +kernel
theorem dX8_copyFrom_33 : decode cX8_copyFrom 33 = .ok (.aload_n 1, 1) := by decide +kernel
theorem dX8_copyFrom_34 : decode cX8_copyFrom 34 = .ok (.getfield 56, 3) := by decide +kernel
theorem dX8_copyFrom_37 : decode cX8_copyFrom 37 = .ok (.putfield 56, 3) := by decide +kernel
theorem dX8_copyFrom_40 : decode cX8_copyFrom 40 = .ok (.aload_n 0, 1) := by decide +kernel
theorem dX8_copyFrom_41 : decode cX8_copyFrom 41 = .ok (.aload_n 1, 1) := by decide +kernel
theorem dX8_copyFrom_42 : decode cX8_copyFrom 42 = .ok (.getfield 59, 3) := by decide +kernel
theorem dX8_copyFrom_45 : decode cX8_copyFrom 45 = .ok (.putfield 59, 3) := by decide +kernel
theorem dX8_copyFrom_48 : decode cX8_copyFrom 48 = .ok (.aload_n 1, 1) := by decide +kernel
theorem dX8_copyFrom_49 : decode cX8_copyFrom 49 = .ok (.getfield 9, 3) := by decide +kernel
theorem dX8_copyFrom_52 : decode cX8_copyFrom 52 = .ok (.iconst 0, 1) := by decide +kernel
theorem dX8_copyFrom_53 : decode cX8_copyFrom 53 = .ok (.aload_n 0, 1) := by decide +kernel
theorem dX8_copyFrom_54 : decode cX8_copyFrom 54 = .ok (.getfield 9, 3) := by decide +kernel
theorem dX8_copyFrom_57 : decode cX8_copyFrom 57 = .ok (.iconst 0, 1) := by decide +kernel
theorem dX8_copyFrom_58 : decode cX8_copyFrom 58 = .ok (.bipush 12, 2) := by decide +kernel
theorem dX8_copyFrom_60 : decode cX8_copyFrom 60 = .ok (.invokestatic 62, 3) := by decide +kernel
theorem dX8_copyFrom_63 : decode cX8_copyFrom 63 = .ok (.aload_n 1, 1) := by decide +kernel
theorem dX8_copyFrom_64 : decode cX8_copyFrom 64 = .ok (.getfield 15, 3) := by decide +kernel
theorem dX8_copyFrom_67 : decode cX8_copyFrom 67 = .ok (.iconst 0, 1) := by decide +kernel
theorem dX8_copyFrom_68 : decode cX8_copyFrom 68 = .ok (.aload_n 0, 1) := by decide +kernel
theorem dX8_copyFrom_69 : decode cX8_copyFrom 69 = .ok (.getfield 15, 3) := by decide +kernel
theorem dX8_copyFrom_72 : decode cX8_copyFrom 72 = .ok (.iconst 0, 1) := by decide +kernel
theorem dX8_copyFrom_73 : decode cX8_copyFrom 73 = .ok (.bipush 64, 2) := by decide +kernel
theorem dX8_copyFrom_75 : decode cX8_copyFrom 75 = .ok (.invokestatic 62, 3) := by decide +kernel
theorem dX8_copyFrom_78 : decode cX8_copyFrom 78 = .ok (.aload_n 1, 1) := by decide +kernel
theorem dX8_copyFrom_79 : decode cX8_copyFrom 79 = .ok (.getfield 18, 3) := by decide +kernel
theorem dX8_copyFrom_82 : decode cX8_copyFrom 82 = .ok (.iconst 0, 1) := by decide +kernel
theorem dX8_copyFrom_83 : decode cX8_copyFrom 83 = .ok (.aload_n 0, 1) := by decide +kernel
theorem dX8_copyFrom_84 : decode cX8_copyFrom 84 = .ok (.getfield 18, 3) := by decide +kernel
theorem dX8_copyFrom_87 : decode cX8_copyFrom 87 = .ok (.iconst 0, 1) := by decide +kernel
theorem dX8_copyFrom_88 : decode cX8_copyFrom 88 = .ok (.bipush 60, 2) := by decide +kernel
theorem dX8_copyFrom_90 : decode cX8_copyFrom 90 = .ok (.invokestatic 62, 3) := by decide +kernel
theorem dX8_copyFrom_93 : decode cX8_copyFrom 93 = .ok (.aload_n 1, 1) := by decide +kernel
theorem dX8_copyFrom_94 : decode cX8_copyFrom 94 = .ok (.getfield 21, 3) := by decide +kernel
theorem dX8_copyFrom_97 : decode cX8_copyFrom 97 = .ok (.iconst 0, 1) := by decide +kernel
theorem dX8_copyFrom_98 : decode cX8_copyFrom 98 = .ok (.aload_n 0, 1) := by decide +kernel
theorem dX8_copyFrom_99 : decode cX8_copyFrom 99 = .ok (.getfield 21, 3) := by decide +kernel
theorem dX8_copyFrom_102 : decode cX8_copyFrom 102 = .ok (.iconst 0, 1) := by decide +kernel
theorem dX8_copyFrom_103 : decode cX8_copyFrom 103 = .ok (.bipush 12, 2) := by decide +kernel
theorem dX8_copyFrom_105 : decode cX8_copyFrom 105 = .ok (.invokestatic 62, 3) := by decide +kernel
theorem dX8_copyFrom_108 : decode cX8_copyFrom 108 = .ok (.aload_n 1, 1) := by decide +kernel
theorem dX8_copyFrom_109 : decode cX8_copyFrom 109 = .ok (.getfield 24, 3) := by decide +kernel
theorem dX8_copyFrom_112 : decode cX8_copyFrom 112 = .ok (.iconst 0, 1) := by decide +kernel
theorem dX8_copyFrom_113 : decode cX8_copyFrom 113 = .ok (.aload_n 0, 1) := by decide +kernel
theorem dX8_copyFrom_114 : decode cX8_copyFrom 114 = .ok (.getfield 24, 3) := by decide +kernel
theorem dX8_copyFrom_117 : decode cX8_copyFrom 117 = .ok (.iconst 0, 1) := by decide +kernel
theorem dX8_copyFrom_118 : decode cX8_copyFrom 118 = .ok (.bipush 17, 2) := by decide +kernel
theorem dX8_copyFrom_120 : decode cX8_copyFrom 120 = .ok (.invokestatic 62, 3) := by decide +kernel
theorem dX8_copyFrom_123 : decode cX8_copyFrom 123 = .ok (.aload_n 1, 1) := by decide +kernel
theorem dX8_copyFrom_124 : decode cX8_copyFrom 124 = .ok (.getfield 33, 3) := by decide +kernel
theorem dX8_copyFrom_127 : decode cX8_copyFrom 127 = .ok (.iconst 0, 1) := by decide +kernel
theorem dX8_copyFrom_128 : decode cX8_copyFrom 128 = .ok (.aload_n 0, 1) := by decide +kernel
theorem dX8_copyFrom_129 : decode cX8_copyFrom 129 = .ok (.getfield 33, 3) := by decide +kernel
theorem dX8_copyFrom_132 : decode cX8_copyFrom 132 = .ok (.iconst 0, 1) := by decide +kernel
theorem dX8_copyFrom_133 : decode cX8_copyFrom 133 = .ok (.bipush 20, 2) := by decide +kernel
theorem dX8_copyFrom_135 : decode cX8_copyFrom 135 = .ok (.invokestatic 62, 3) := by decide +kernel
theorem dX8_copyFrom_138 : decode cX8_copyFrom 138 = .ok (.iconst 0, 1) := by decide +kernel
theorem dX8_copyFrom_139 : decode cX8_copyFrom 139 = .ok (.istore_n 2, 1) := by decide +kernel
theorem dX8_copyFrom_140 : decode cX8_copyFrom 140 = .ok (.iload_n 2, 1) := by decide +kernel
theorem dX8_copyFrom_141 : decode cX8_copyFrom 141 = .ok (.bipush 8, 2) := by decide +kernel
theorem dX8_copyFrom_143 : decode cX8_copyFrom 143 = .ok (.if_icmp .ge 24, 3) := by decide +kernel
theorem dX8_copyFrom_146 : decode cX8_copyFrom 146 = .ok (.aload_n 0, 1) := by decide +kernel
theorem dX8_copyFrom_147 : decode cX8_copyFrom 147 = .ok (.getfield 29, 3) := by decide +kernel
theorem dX8_copyFrom_150 : decode cX8_copyFrom 150 = .ok (.iload_n 2, 1) := by decide +kernel
theorem dX8_copyFrom_151 : decode cX8_copyFrom 151 = .ok (.aaload, 1) := by decide +kernel
theorem dX8_copyFrom_152 : decode cX8_copyFrom 152 = .ok (.aload_n 1, 1) := by decide +kernel
theorem dX8_copyFrom_153 : decode cX8_copyFrom 153 = .ok (.getfield 29, 3) := by decide +kernel
theorem dX8_copyFrom_156 : decode cX8_copyFrom 156 = .ok (.iload_n 2, 1) := by decide +kernel
theorem dX8_copyFrom_157 : decode cX8_copyFrom 157 = .ok (.aaload, 1) := by decide +kernel
theorem dX8_copyFrom_158 : decode cX8_copyFrom 158 = .ok (.invokevirtual 68, 3) := by decide +kernel
theorem dX8_copyFrom_161 : decode cX8_copyFrom 161 = .ok (.iinc 2 1, 3) := by decide +kernel
theorem dX8_copyFrom_164 : decode cX8_copyFrom 164 = .ok (.goto (-24), 3) := by decide +kernel
theorem dX8_copyFrom_167 : decode cX8_copyFrom 167 = .ok (.return_, 1) := by decide +kernel
theorem dX8_addChange_0 : decode cX8_addChange 0 = .ok (.aload_n 0, 1) := by decide +kernel
theorem dX8_addChange_1 : decode cX8_addChange 1 = .ok (.getfield 50, 3) := by decide +kernel
theorem dX8_addChange_4 : decode cX8_addChange 4 = .ok (.istore 7, 2) := by decide +kernel
theorem dX8_addChange_6 : decode cX8_addChange 6 = .ok (.iload 7, 2) := by decide +kernel
theorem dX8_addChange_8 : decode cX8_addChange 8 = .ok (.ifCond .le 41, 3) := by decide +kernel
theorem dX8_addChange_11 : decode cX8_addChange 11 = .ok (.aload_n 0, 1) := by decide +kernel
theorem dX8_addChange_12 : decode cX8_addChange 12 = .ok (.getfield 18, 3) := by decide +kernel
theorem dX8_addChange_15 : decode cX8_addChange 15 = .ok (.iload 7, 2) := by decide +kernel
theorem dX8_addChange_17 : decode cX8_addChange 17 = .ok (.iconst 1, 1) := by decide +kernel
theorem dX8_addChange_18 : decode cX8_addChange 18 = .ok (.isub, 1) := by decide +kernel
theorem dX8_addChange_19 : decode cX8_addChange 19 = .ok (.iaload, 1) := by decide +kernel
theorem dX8_addChange_20 : decode cX8_addChange 20 = .ok (.invokestatic 72, 3) := by decide +kernel
theorem dX8_addChange_23 : decode cX8_addChange 23 = .ok (.iload_n 1, 1) := by decide +kernel
theorem dX8_addChange_24 : decode cX8_addChange 24 = .ok (.if_icmp .le 25, 3) := by decide +kernel
theorem dX8_addChange_27 : decode cX8_addChange 27 = .ok (.aload_n 0, 1) := by decide +kernel
theorem dX8_addChange_28 : decode cX8_addChange 28 = .ok (.getfield 18, 3) := by decide +kernel
theorem dX8_addChange_31 : decode cX8_addChange 31 = .ok (.iload 7, 2) := by decide +kernel
theorem dX8_addChange_33 : decode cX8_addChange 33 = .ok (.aload_n 0, 1) := by decide +kernel
theorem dX8_addChange_34 : decode cX8_addChange 34 = .ok (.getfield 18, 3) := by decide +kernel
theorem dX8_addChange_37 : decode cX8_addChange 37 = .ok (.iload 7, 2) := by decide +kernel
theorem dX8_addChange_39 : decode cX8_addChange 39 = .ok (.iconst 1, 1) := by decide +kernel
theorem dX8_addChange_40 : decode cX8_addChange 40 = .ok (.isub, 1) := by decide +kernel
theorem dX8_addChange_41 : decode cX8_addChange 41 = .ok (.iaload, 1) := by decide +kernel
theorem dX8_addChange_42 : decode cX8_addChange 42 = .ok (.iastore, 1) := by decide +kernel
theorem dX8_addChange_43 : decode cX8_addChange 43 = .ok (.iinc 7 (-1), 3) := by decide +kernel
theorem dX8_addChange_46 : decode cX8_addChange 46 = .ok (.goto (-40), 3) := by decide +kernel
theorem dX8_addChange_49 : decode cX8_addChange 49 = .ok (.aload_n 0, 1) := by decide +kernel
theorem dX8_addChange_50 : decode cX8_addChange 50 = .ok (.getfield 18, 3) := by decide +kernel
theorem dX8_addChange_53 : decode cX8_addChange 53 = .ok (.iload 7, 2) := by decide +kernel
theorem dX8_addChange_55 : decode cX8_addChange 55 = .ok (.iload_n 1, 1) := by decide +kernel
theorem dX8_addChange_56 : decode cX8_addChange 56 = .ok (.bipush 15, 2) := by decide +kernel
theorem dX8_addChange_58 : decode cX8_addChange 58 = .ok (.ishl, 1) := by decide +kernel
theorem dX8_addChange_59 : decode cX8_addChange 59 = .ok (.iload_n 2, 1) := by decide +kernel
theorem dX8_addChange_60 : decode cX8_addChange 60 = .ok (.bipush 13, 2) := by decide +kernel
theorem dX8_addChange_62 : decode cX8_addChange 62 = .ok (.ishl, 1) := by decide +kernel
theorem dX8_addChange_63 : decode cX8_addChange 63 = .ok (.ior, 1) := by decide +kernel
theorem dX8_addChange_64 : decode cX8_addChange 64 = .ok (.iload_n 3, 1) := by decide +kernel
theorem dX8_addChange_65 : decode cX8_addChange 65 = .ok (.bipush 9, 2) := by decide +kernel
theorem dX8_addChange_67 : decode cX8_addChange 67 = .ok (.ishl, 1) := by decide +kernel
theorem dX8_addChange_68 : decode cX8_addChange 68 = .ok (.ior, 1) := by decide +kernel
theorem dX8_addChange_69 : decode cX8_addChange 69 = .ok (.iload 4, 2) := by decide +kernel
theorem dX8_addChange_71 : decode cX8_addChange 71 = .ok (.iconst 5, 1) := by decide +kernel
theorem dX8_addChange_72 : decode cX8_addChange 72 = .ok (.ishl, 1) := by decide +kernel
theorem dX8_addChange_73 : decode cX8_addChange 73 = .ok (.ior, 1) := by decide +kernel
theorem dX8_addChange_74 : decode cX8_addChange 74 = .ok (.iload 5, 2) := by decide +kernel
theorem dX8_addChange_76 : decode cX8_addChange 76 = .ok (.iconst 1, 1) := by decide +kernel
theorem dX8_addChange_77 : decode cX8_addChange 77 = .ok (.ishl, 1) := by decide +kernel
theorem dX8_addChange_78 : decode cX8_addChange 78 = .ok (.ior, 1) := by decide +kernel
theorem dX8_addChange_79 : decode cX8_addChange 79 = .ok (.iload 6, 2) := by decide +kernel
theorem dX8_addChange_81 : decode cX8_addChange 81 = .ok (.ifCond .eq 7, 3) := by decide +kernel
theorem dX8_addChange_84 : decode cX8_addChange 84 = .ok (.iconst 1, 1) := by decide +kernel
theorem dX8_addChange_85 : decode cX8_addChange 85 = .ok (.goto 4, 3) := by decide +kernel
theorem dX8_addChange_88 : decode cX8_addChange 88 = .ok (.iconst 0, 1) := by decide +kernel
theorem dX8_addChange_89 : decode cX8_addChange 89 = .ok (.ior, 1) := by decide +kernel
theorem dX8_addChange_90 : decode cX8_addChange 90 = .ok (.iastore, 1) := by decide +kernel
theorem dX8_addChange_91 : decode cX8_addChange 91 = .ok (.aload_n 0, 1) := by decide +kernel
theorem dX8_addChange_92 : decode cX8_addChange 92 = .ok (.dup, 1) := by decide +kernel
theorem dX8_addChange_93 : decode cX8_addChange 93 = .ok (.getfield 50, 3) := by decide +kernel
theorem dX8_addChange_96 : decode cX8_addChange 96 = .ok (.iconst 1, 1) := by decide +kernel
theorem dX8_addChange_97 : decode cX8_addChange 97 = .ok (.iadd, 1) := by decide +kernel
theorem dX8_addChange_98 : decode cX8_addChange 98 = .ok (.putfield 50, 3) := by decide +kernel
theorem dX8_addChange_101 : decode cX8_addChange 101 = .ok (.iload 7, 2) := by decide +kernel
theorem dX8_addChange_103 : decode cX8_addChange 103 = .ok (.ireturn, 1) := by decide +kernel
theorem dX8_dayOfChange_0 : decode cX8_dayOfChange 0 = .ok (.iload_n 0, 1) := by decide +kernel
theorem dX8_dayOfChange_1 : decode cX8_dayOfChange 1 = .ok (.bipush 15, 2) := by decide +kernel
theorem dX8_dayOfChange_3 : decode cX8_dayOfChange 3 = .ok (.ishr, 1) := by decide +kernel
theorem dX8_dayOfChange_4 : decode cX8_dayOfChange 4 = .ok (.ireturn, 1) := by decide +kernel
theorem dX8_howManyAre_0 : decode cX8_howManyAre 0 = .ok (.iconst 0, 1) := by decide +kernel
theorem dX8_howManyAre_1 : decode cX8_howManyAre 1 = .ok (.istore_n 2, 1) := by decide +kernel
theorem dX8_howManyAre_2 : decode cX8_howManyAre 2 = .ok (.iconst 0, 1) := by decide +kernel
theorem dX8_howManyAre_3 : decode cX8_howManyAre 3 = .ok (.istore_n 3, 1) := by decide +kernel
theorem dX8_howManyAre_4 : decode cX8_howManyAre 4 = .ok (.iload_n 3, 1) := by decide +kernel
theorem dX8_howManyAre_5 : decode cX8_howManyAre 5 = .ok (.aload_n 0, 1) := by decide +kernel
theorem dX8_howManyAre_6 : decode cX8_howManyAre 6 = .ok (.getfield 53, 3) := by decide +kernel
theorem dX8_howManyAre_9 : decode cX8_howManyAre 9 = .ok (.if_icmp .ge 30, 3) := by decide +kernel
theorem dX8_howManyAre_12 : decode cX8_howManyAre 12 = .ok (.iload_n 2, 1) := by decide +kernel
theorem dX8_howManyAre_13 : decode cX8_howManyAre 13 = .ok (.aload_n 0, 1) := by decide +kernel
theorem dX8_howManyAre_14 : decode cX8_howManyAre 14 = .ok (.getfield 29, 3) := by decide +kernel
theorem dX8_howManyAre_17 : decode cX8_howManyAre 17 = .ok (.iload_n 3, 1) := by decide +kernel
theorem dX8_howManyAre_18 : decode cX8_howManyAre 18 = .ok (.aaload, 1) := by decide +kernel
theorem dX8_howManyAre_19 : decode cX8_howManyAre 19 = .ok (.getfield 76, 3) := by decide +kernel
theorem dX8_howManyAre_22 : decode cX8_howManyAre 22 = .ok (.iload_n 1, 1) := by decide +kernel
theorem dX8_howManyAre_23 : decode cX8_howManyAre 23 = .ok (.if_icmp .ne 7, 3) := by decide +kernel
theorem dX8_howManyAre_26 : decode cX8_howManyAre 26 = .ok (.iconst 1, 1) := by decide +kernel
theorem dX8_howManyAre_27 : decode cX8_howManyAre 27 = .ok (.goto 4, 3) := by decide +kernel
theorem dX8_howManyAre_30 : decode cX8_howManyAre 30 = .ok (.iconst 0, 1) := by decide +kernel
theorem dX8_howManyAre_31 : decode cX8_howManyAre 31 = .ok (.iadd, 1) := by decide +kernel
theorem dX8_howManyAre_32 : decode cX8_howManyAre 32 = .ok (.istore_n 2, 1) := by decide +kernel
theorem dX8_howManyAre_33 : decode cX8_howManyAre 33 = .ok (.iinc 3 1, 3) := by decide +kernel
theorem dX8_howManyAre_36 : decode cX8_howManyAre 36 = .ok (.goto (-32), 3) := by decide +kernel
theorem dX8_howManyAre_39 : decode cX8_howManyAre 39 = .ok (.iload_n 2, 1) := by decide +kernel
theorem dX8_howManyAre_40 : decode cX8_howManyAre 40 = .ok (.ireturn, 1) := by decide +kernel
theorem dX8_howManyAreRight_0 : decode cX8_howManyAreRight 0 = .ok (.iconst 0, 1) := by decide +kernel
theorem dX8_howManyAreRight_1 : decode cX8_howManyAreRight 1 = .ok (.istore_n 1, 1) := by decide +kernel
theorem dX8_howManyAreRight_2 : decode cX8_howManyAreRight 2 = .ok (.iconst 0, 1) := by decide +kernel
theorem dX8_howManyAreRight_3 : decode cX8_howManyAreRight 3 = .ok (.istore_n 2, 1) := by decide +kernel
theorem dX8_howManyAreRight_4 : decode cX8_howManyAreRight 4 = .ok (.iload_n 2, 1) := by decide +kernel
theorem dX8_howManyAreRight_5 : decode cX8_howManyAreRight 5 = .ok (.aload_n 0, 1) := by decide +kernel
theorem dX8_howManyAreRight_6 : decode cX8_howManyAreRight 6 = .ok (.getfield 53, 3) := by decide +kernel
theorem dX8_howManyAreRight_9 : decode cX8_howManyAreRight 9 = .ok (.if_icmp .ge 29, 3) := by decide +kernel
theorem dX8_howManyAreRight_12 : decode cX8_howManyAreRight 12 = .ok (.iload_n 1, 1) := by decide +kernel
theorem dX8_howManyAreRight_13 : decode cX8_howManyAreRight 13 = .ok (.aload_n 0, 1) := by decide +kernel
theorem dX8_howManyAreRight_14 : decode cX8_howManyAreRight 14 = .ok (.getfield 29, 3) := by decide +kernel
theorem dX8_howManyAreRight_17 : decode cX8_howManyAreRight 17 = .ok (.iload_n 2, 1) := by decide +kernel
theorem dX8_howManyAreRight_18 : decode cX8_howManyAreRight 18 = .ok (.aaload, 1) := by decide +kernel
theorem dX8_howManyAreRight_19 : decode cX8_howManyAreRight 19 = .ok (.invokevirtual 79, 3) := by decide +kernel
theorem dX8_howManyAreRight_22 : decode cX8_howManyAreRight 22 = .ok (.ifCond .eq 7, 3) := by decide +kernel
theorem dX8_howManyAreRight_25 : decode cX8_howManyAreRight 25 = .ok (.iconst 1, 1) := by decide +kernel
theorem dX8_howManyAreRight_26 : decode cX8_howManyAreRight 26 = .ok (.goto 4, 3) := by decide +kernel
theorem dX8_howManyAreRight_29 : decode cX8_howManyAreRight 29 = .ok (.iconst 0, 1) := by decide +kernel
theorem dX8_howManyAreRight_30 : decode cX8_howManyAreRight 30 = .ok (.iadd, 1) := by decide +kernel
theorem dX8_howManyAreRight_31 : decode cX8_howManyAreRight 31 = .ok (.istore_n 1, 1) := by decide +kernel
theorem dX8_howManyAreRight_32 : decode cX8_howManyAreRight 32 = .ok (.iinc 2 1, 3) := by decide +kernel
theorem dX8_howManyAreRight_35 : decode cX8_howManyAreRight 35 = .ok (.goto (-31), 3) := by decide +kernel
theorem dX8_howManyAreRight_38 : decode cX8_howManyAreRight 38 = .ok (.iload_n 1, 1) := by decide +kernel
theorem dX8_howManyAreRight_39 : decode cX8_howManyAreRight 39 = .ok (.ireturn, 1) := by decide +kernel
theorem dX9_init_0 : decode cX9_init 0 = .ok (.aload_n 0, 1) := by decide +kernel
theorem dX9_init_1 : decode cX9_init 1 = .ok (.invokespecial 3, 3) := by decide +kernel
theorem dX9_init_4 : decode cX9_init 4 = .ok (.aload_n 0, 1) := by decide +kernel
theorem dX9_init_5 : decode cX9_init 5 = .ok (.bipush 61, 2) := by decide +kernel
theorem dX9_init_7 : decode cX9_init 7 = .ok (.newarray .int, 2) := by decide +kernel
theorem dX9_init_9 : decode cX9_init 9 = .ok (.putfield 11, 3) := by decide +kernel
theorem dX9_init_12 : decode cX9_init 12 = .ok (.aload_n 0, 1) := by decide +kernel
theorem dX9_init_13 : decode cX9_init 13 = .ok (.sipush 488, 3) := by decide +kernel
theorem dX9_init_16 : decode cX9_init 16 = .ok (.newarray .int, 2) := by decide +kernel
theorem dX9_init_18 : decode cX9_init 18 = .ok (.putfield 15, 3) := by decide +kernel
theorem dX9_init_21 : decode cX9_init 21 = .ok (.aload_n 0, 1) := by decide +kernel
theorem dX9_init_22 : decode cX9_init 22 = .ok (.sipush 488, 3) := by decide +kernel
theorem dX9_init_25 : decode cX9_init 25 = .ok (.newarray .int, 2) := by decide +kernel
theorem dX9_init_27 : decode cX9_init 27 = .ok (.putfield 18, 3) := by decide +kernel
theorem dX9_init_30 : decode cX9_init 30 = .ok (.aload_n 0, 1) := by decide +kernel
theorem dX9_init_31 : decode cX9_init 31 = .ok (.bipush 61, 2) := by decide +kernel
theorem dX9_init_33 : decode cX9_init 33 = .ok (.newarray .int, 2) := by decide +kernel
theorem dX9_init_35 : decode cX9_init 35 = .ok (.putfield 21, 3) := by decide +kernel
theorem dX9_init_38 : decode cX9_init 38 = .ok (.aload_n 0, 1) := by decide +kernel
theorem dX9_init_39 : decode cX9_init 39 = .ok (.sipush 488, 3) := by decide +kernel
theorem dX9_init_42 : decode cX9_init 42 = .ok (.newarray .int, 2) := by decide +kernel
theorem dX9_init_44 : decode cX9_init 44 = .ok (.putfield 24, 3) := by decide +kernel
theorem dX9_init_47 : decode cX9_init 47 = .ok (.return_, 1) := by decide +kernel
theorem dX9_spread_0 : decode cX9_spread 0 = .ok (.aload_n 0, 1) := by decide +kernel
theorem dX9_spread_1 : decode cX9_spread 1 = .ok (.getfield 11, 3) := by decide +kernel
theorem dX9_spread_4 : decode cX9_spread 4 = .ok (.iconst 0, 1) := by decide +kernel
theorem dX9_spread_5 : decode cX9_spread 5 = .ok (.invokestatic 27, 3) := by decide +kernel
theorem dX9_spread_8 : decode cX9_spread 8 = .ok (.aload_n 1, 1) := by decide +kernel
theorem dX9_spread_9 : decode cX9_spread 9 = .ok (.getfield 33, 3) := by decide +kernel
theorem dX9_spread_12 : decode cX9_spread 12 = .ok (.ifnonnull 4, 3) := by decide +kernel
theorem dX9_spread_15 : decode cX9_spread 15 = .ok (.return_, 1) := by decide +kernel
theorem dX9_spread_16 : decode cX9_spread 16 = .ok (.aload_n 0, 1) := by decide +kernel
theorem dX9_spread_17 : decode cX9_spread 17 = .ok (.getfield 11, 3) := by decide +kernel
theorem dX9_spread_20 : decode cX9_spread 20 = .ok (.iconst 0, 1) := by decide +kernel
theorem dX9_spread_21 : decode cX9_spread 21 = .ok (.iconst 1, 1) := by decide +kernel
theorem dX9_spread_22 : decode cX9_spread 22 = .ok (.aload_n 1, 1) := by decide +kernel
theorem dX9_spread_23 : decode cX9_spread 23 = .ok (.getfield 39, 3) := by decide +kernel
theorem dX9_spread_26 : decode cX9_spread 26 = .ok (.ishl, 1) := by decide +kernel
theorem dX9_spread_27 : decode cX9_spread 27 = .ok (.iastore, 1) := by decide +kernel
theorem dX9_spread_28 : decode cX9_spread 28 = .ok (.iconst 0, 1) := by decide +kernel
theorem dX9_spread_29 : decode cX9_spread 29 = .ok (.istore 4, 2) := by decide +kernel
theorem dX9_spread_31 : decode cX9_spread 31 = .ok (.iload 4, 2) := by decide +kernel
theorem dX9_spread_33 : decode cX9_spread 33 = .ok (.bipush 61, 2) := by decide +kernel
theorem dX9_spread_35 : decode cX9_spread 35 = .ok (.if_icmp .ge 118, 3) := by decide +kernel
theorem dX9_spread_38 : decode cX9_spread 38 = .ok (.aload_n 1, 1) := by decide +kernel
theorem dX9_spread_39 : decode cX9_spread 39 = .ok (.getfield 43, 3) := by decide +kernel
theorem dX9_spread_42 : decode cX9_spread 42 = .ok (.iload 4, 2) := by decide +kernel
theorem dX9_spread_44 : decode cX9_spread 44 = .ok (.iadd, 1) := by decide +kernel
theorem dX9_spread_45 : decode cX9_spread 45 = .ok (.sipush 999, 3) := by decide +kernel
theorem dX9_spread_48 : decode cX9_spread 48 = .ok (.invokestatic 46, 3) := by decide +kernel
theorem dX9_spread_51 : decode cX9_spread 51 = .ok (.istore 5, 2) := by decide +kernel
theorem dX9_spread_53 : decode cX9_spread 53 = .ok (.iconst 0, 1) := by decide +kernel
theorem dX9_spread_54 : decode cX9_spread 54 = .ok (.istore 6, 2) := by decide +kernel
theorem dX9_spread_56 : decode cX9_spread 56 = .ok (.iload 6, 2) := by decide +kernel
theorem dX9_spread_58 : decode cX9_spread 58 = .ok (.bipush 8, 2) := by decide +kernel
theorem dX9_spread_60 : decode cX9_spread 60 = .ok (.if_icmp .ge 87, 3) := by decide +kernel
theorem dX9_spread_63 : decode cX9_spread 63 = .ok (.aload_n 0, 1) := by decide +kernel
theorem dX9_spread_64 : decode cX9_spread 64 = .ok (.getfield 11, 3) := by decide +kernel
theorem dX9_spread_67 : decode cX9_spread 67 = .ok (.iload 4, 2) := by decide +kernel
theorem dX9_spread_69 : decode cX9_spread 69 = .ok (.iaload, 1) := by decide +kernel
theorem dX9_spread_70 : decode cX9_spread 70 = .ok (.iload 6, 2) := by decide +kernel
theorem dX9_spread_72 : decode cX9_spread 72 = .ok (.invokestatic 52, 3) := by decide +kernel
theorem dX9_spread_75 : decode cX9_spread 75 = .ok (.ifCond .eq 66, 3) := by decide +kernel
theorem dX9_spread_78 : decode cX9_spread 78 = .ok (.aload_n 2, 1) := by decide +kernel
theorem dX9_spread_79 : decode cX9_spread 79 = .ok (.aload_n 1, 1) := by decide +kernel
theorem dX9_spread_80 : decode cX9_spread 80 = .ok (.getfield 33, 3) := by decide +kernel
theorem dX9_spread_83 : decode cX9_spread 83 = .ok (.aload_n 1, 1) := by decide +kernel
theorem dX9_spread_84 : decode cX9_spread 84 = .ok (.getfield 56, 3) := by decide +kernel
theorem dX9_spread_87 : decode cX9_spread 87 = .ok (.aload_n 1, 1) := by decide +kernel
theorem dX9_spread_88 : decode cX9_spread 88 = .ok (.getfield 43, 3) := by decide +kernel
theorem dX9_spread_91 : decode cX9_spread 91 = .ok (.iload 5, 2) := by decide +kernel
theorem dX9_spread_93 : decode cX9_spread 93 = .ok (.iload 6, 2) := by decide +kernel
theorem dX9_spread_95 : decode cX9_spread 95 = .ok (.invokevirtual 59, 3) := by decide +kernel
theorem dX9_spread_98 : decode cX9_spread 98 = .ok (.aload_n 0, 1) := by decide +kernel
theorem dX9_spread_99 : decode cX9_spread 99 = .ok (.getfield 15, 3) := by decide +kernel
theorem dX9_spread_102 : decode cX9_spread 102 = .ok (.iload 4, 2) := by decide +kernel
theorem dX9_spread_104 : decode cX9_spread 104 = .ok (.bipush 8, 2) := by decide +kernel
theorem dX9_spread_106 : decode cX9_spread 106 = .ok (.imul, 1) := by decide +kernel
theorem dX9_spread_107 : decode cX9_spread 107 = .ok (.iload 6, 2) := by decide +kernel
theorem dX9_spread_109 : decode cX9_spread 109 = .ok (.iadd, 1) := by decide +kernel
theorem dX9_spread_110 : decode cX9_spread 110 = .ok (.aload_n 2, 1) := by decide +kernel
theorem dX9_spread_111 : decode cX9_spread 111 = .ok (.getfield 65, 3) := by decide +kernel
theorem dX9_spread_114 : decode cX9_spread 114 = .ok (.iastore, 1) := by decide +kernel
theorem dX9_spread_115 : decode cX9_spread 115 = .ok (.aload_n 0, 1) := by decide +kernel
theorem dX9_spread_116 : decode cX9_spread 116 = .ok (.getfield 18, 3) := by decide +kernel
theorem dX9_spread_119 : decode cX9_spread 119 = .ok (.iload 4, 2) := by decide +kernel
theorem dX9_spread_121 : decode cX9_spread 121 = .ok (.bipush 8, 2) := by decide +kernel
theorem dX9_spread_123 : decode cX9_spread 123 = .ok (.imul, 1) := by decide +kernel
theorem dX9_spread_124 : decode cX9_spread 124 = .ok (.iload 6, 2) := by decide +kernel
theorem dX9_spread_126 : decode cX9_spread 126 = .ok (.iadd, 1) := by decide +kernel
theorem dX9_spread_127 : decode cX9_spread 127 = .ok (.aload_n 2, 1) := by decide +kernel
theorem dX9_spread_128 : decode cX9_spread 128 = .ok (.getfield 67, 3) := by decide +kernel
theorem dX9_spread_131 : decode cX9_spread 131 = .ok (.iastore, 1) := by decide +kernel
theorem dX9_spread_132 : decode cX9_spread 132 = .ok (.aload_n 0, 1) := by decide +kernel
theorem dX9_spread_133 : decode cX9_spread 133 = .ok (.iload 4, 2) := by decide +kernel
theorem dX9_spread_135 : decode cX9_spread 135 = .ok (.iload 6, 2) := by decide +kernel
theorem dX9_spread_137 : decode cX9_spread 137 = .ok (.aload_n 3, 1) := by decide +kernel
theorem dX9_spread_138 : decode cX9_spread 138 = .ok (.invokevirtual 69, 3) := by decide +kernel
theorem dX9_spread_141 : decode cX9_spread 141 = .ok (.iinc 6 1, 3) := by decide +kernel
theorem dX9_spread_144 : decode cX9_spread 144 = .ok (.goto (-88), 3) := by decide +kernel
theorem dX9_spread_147 : decode cX9_spread 147 = .ok (.iinc 4 1, 3) := by decide +kernel
theorem dX9_spread_150 : decode cX9_spread 150 = .ok (.goto (-119), 3) := by decide +kernel
theorem dX9_spread_153 : decode cX9_spread 153 = .ok (.return_, 1) := by decide +kernel
theorem dX9_reach_0 : decode cX9_reach 0 = .ok (.iconst 0, 1) := by decide +kernel
theorem dX9_reach_1 : decode cX9_reach 1 = .ok (.istore 4, 2) := by decide +kernel
theorem dX9_reach_3 : decode cX9_reach 3 = .ok (.iload 4, 2) := by decide +kernel
theorem dX9_reach_5 : decode cX9_reach 5 = .ok (.bipush 8, 2) := by decide +kernel
theorem dX9_reach_7 : decode cX9_reach 7 = .ok (.if_icmp .ge 62, 3) := by decide +kernel
theorem dX9_reach_10 : decode cX9_reach 10 = .ok (.iload_n 1, 1) := by decide +kernel
theorem dX9_reach_11 : decode cX9_reach 11 = .ok (.aload_n 3, 1) := by decide +kernel
theorem dX9_reach_12 : decode cX9_reach 12 = .ok (.iload_n 2, 1) := by decide +kernel
theorem dX9_reach_13 : decode cX9_reach 13 = .ok (.bipush 8, 2) := by decide +kernel
theorem dX9_reach_15 : decode cX9_reach 15 = .ok (.imul, 1) := by decide +kernel
theorem dX9_reach_16 : decode cX9_reach 16 = .ok (.iload 4, 2) := by decide +kernel
theorem dX9_reach_18 : decode cX9_reach 18 = .ok (.iadd, 1) := by decide +kernel
theorem dX9_reach_19 : decode cX9_reach 19 = .ok (.iaload, 1) := by decide +kernel
theorem dX9_reach_20 : decode cX9_reach 20 = .ok (.iadd, 1) := by decide +kernel
theorem dX9_reach_21 : decode cX9_reach 21 = .ok (.istore 5, 2) := by decide +kernel
theorem dX9_reach_23 : decode cX9_reach 23 = .ok (.aload_n 0, 1) := by decide +kernel
theorem dX9_reach_24 : decode cX9_reach 24 = .ok (.getfield 18, 3) := by decide +kernel
theorem dX9_reach_27 : decode cX9_reach 27 = .ok (.iload_n 1, 1) := by decide +kernel
theorem dX9_reach_28 : decode cX9_reach 28 = .ok (.bipush 8, 2) := by decide +kernel
theorem dX9_reach_30 : decode cX9_reach 30 = .ok (.imul, 1) := by decide +kernel
theorem dX9_reach_31 : decode cX9_reach 31 = .ok (.iload_n 2, 1) := by decide +kernel
theorem dX9_reach_32 : decode cX9_reach 32 = .ok (.iadd, 1) := by decide +kernel
theorem dX9_reach_33 : decode cX9_reach 33 = .ok (.iaload, 1) := by decide +kernel
theorem dX9_reach_34 : decode cX9_reach 34 = .ok (.iload 4, 2) := by decide +kernel
theorem dX9_reach_36 : decode cX9_reach 36 = .ok (.invokestatic 52, 3) := by decide +kernel
theorem dX9_reach_39 : decode cX9_reach 39 = .ok (.ifCond .eq 24, 3) := by decide +kernel
theorem dX9_reach_42 : decode cX9_reach 42 = .ok (.iload 5, 2) := by decide +kernel
theorem dX9_reach_44 : decode cX9_reach 44 = .ok (.bipush 61, 2) := by decide +kernel
theorem dX9_reach_46 : decode cX9_reach 46 = .ok (.if_icmp .ge 17, 3) := by decide +kernel
theorem dX9_reach_49 : decode cX9_reach 49 = .ok (.aload_n 0, 1) := by decide +kernel
theorem dX9_reach_50 : decode cX9_reach 50 = .ok (.getfield 11, 3) := by decide +kernel
theorem dX9_reach_53 : decode cX9_reach 53 = .ok (.iload 5, 2) := by decide +kernel
theorem dX9_reach_55 : decode cX9_reach 55 = .ok (.dup2, 1) := by decide +kernel
theorem dX9_reach_56 : decode cX9_reach 56 = .ok (.iaload, 1) := by decide +kernel
theorem dX9_reach_57 : decode cX9_reach 57 = .ok (.iconst 1, 1) := by decide +kernel
theorem dX9_reach_58 : decode cX9_reach 58 = .ok (.iload 4, 2) := by decide +kernel
theorem dX9_reach_60 : decode cX9_reach 60 = .ok (.ishl, 1) := by decide +kernel
theorem dX9_reach_61 : decode cX9_reach 61 = .ok (.ior, 1) := by decide +kernel
theorem dX9_reach_62 : decode cX9_reach 62 = .ok (.iastore, 1) := by decide +kernel
theorem dX9_reach_63 : decode cX9_reach 63 = .ok (.iinc 4 1, 3) := by decide +kernel
theorem dX9_reach_66 : decode cX9_reach 66 = .ok (.goto (-63), 3) := by decide +kernel
theorem dX9_reach_69 : decode cX9_reach 69 = .ok (.return_, 1) := by decide +kernel
theorem dX9_judge_0 : decode cX9_judge 0 = .ok (.aload_n 0, 1) := by decide +kernel
theorem dX9_judge_1 : decode cX9_judge 1 = .ok (.getfield 21, 3) := by decide +kernel
theorem dX9_judge_4 : decode cX9_judge 4 = .ok (.iconst 0, 1) := by decide +kernel
theorem dX9_judge_5 : decode cX9_judge 5 = .ok (.invokestatic 27, 3) := by decide +kernel
theorem dX9_judge_8 : decode cX9_judge 8 = .ok (.aload_n 0, 1) := by decide +kernel
theorem dX9_judge_9 : decode cX9_judge 9 = .ok (.getfield 24, 3) := by decide +kernel
theorem dX9_judge_12 : decode cX9_judge 12 = .ok (.sipush 1000, 3) := by decide +kernel
theorem dX9_judge_15 : decode cX9_judge 15 = .ok (.invokestatic 27, 3) := by decide +kernel
theorem dX9_judge_18 : decode cX9_judge 18 = .ok (.bipush 60, 2) := by decide +kernel
theorem dX9_judge_20 : decode cX9_judge 20 = .ok (.istore_n 3, 1) := by decide +kernel
theorem dX9_judge_21 : decode cX9_judge 21 = .ok (.iload_n 3, 1) := by decide +kernel
theorem dX9_judge_22 : decode cX9_judge 22 = .ok (.ifCond .lt 48, 3) := by decide +kernel
theorem dX9_judge_25 : decode cX9_judge 25 = .ok (.iconst 0, 1) := by decide +kernel
theorem dX9_judge_26 : decode cX9_judge 26 = .ok (.istore 4, 2) := by decide +kernel
theorem dX9_judge_28 : decode cX9_judge 28 = .ok (.iload 4, 2) := by decide +kernel
theorem dX9_judge_30 : decode cX9_judge 30 = .ok (.bipush 8, 2) := by decide +kernel
theorem dX9_judge_32 : decode cX9_judge 32 = .ok (.if_icmp .ge 32, 3) := by decide +kernel
theorem dX9_judge_35 : decode cX9_judge 35 = .ok (.aload_n 0, 1) := by decide +kernel
theorem dX9_judge_36 : decode cX9_judge 36 = .ok (.getfield 11, 3) := by decide +kernel
theorem dX9_judge_39 : decode cX9_judge 39 = .ok (.iload_n 3, 1) := by decide +kernel
theorem dX9_judge_40 : decode cX9_judge 40 = .ok (.iaload, 1) := by decide +kernel
theorem dX9_judge_41 : decode cX9_judge 41 = .ok (.iload 4, 2) := by decide +kernel
theorem dX9_judge_43 : decode cX9_judge 43 = .ok (.invokestatic 52, 3) := by decide +kernel
theorem dX9_judge_46 : decode cX9_judge 46 = .ok (.ifCond .eq 12, 3) := by decide +kernel
theorem dX9_judge_49 : decode cX9_judge 49 = .ok (.aload_n 0, 1) := by decide +kernel
theorem dX9_judge_50 : decode cX9_judge 50 = .ok (.iload_n 3, 1) := by decide +kernel
theorem dX9_judge_51 : decode cX9_judge 51 = .ok (.iload 4, 2) := by decide +kernel
theorem dX9_judge_53 : decode cX9_judge 53 = .ok (.iload_n 1, 1) := by decide +kernel
theorem dX9_judge_54 : decode cX9_judge 54 = .ok (.aload_n 2, 1) := by decide +kernel
theorem dX9_judge_55 : decode cX9_judge 55 = .ok (.invokevirtual 73, 3) := by decide +kernel
theorem dX9_judge_58 : decode cX9_judge 58 = .ok (.iinc 4 1, 3) := by decide +kernel
theorem dX9_judge_61 : decode cX9_judge 61 = .ok (.goto (-33), 3) := by decide +kernel
theorem dX9_judge_64 : decode cX9_judge 64 = .ok (.iinc 3 (-1), 3) := by decide +kernel
theorem dX9_judge_67 : decode cX9_judge 67 = .ok (.goto (-46), 3) := by decide +kernel
theorem dX9_judge_70 : decode cX9_judge 70 = .ok (.return_, 1) := by decide +kernel
theorem dX9_judgeAt_0 : decode cX9_judgeAt 0 = .ok (.iload_n 1, 1) := by decide +kernel
theorem dX9_judgeAt_1 : decode cX9_judgeAt 1 = .ok (.bipush 8, 2) := by decide +kernel
theorem dX9_judgeAt_3 : decode cX9_judgeAt 3 = .ok (.imul, 1) := by decide +kernel
theorem dX9_judgeAt_4 : decode cX9_judgeAt 4 = .ok (.iload_n 2, 1) := by decide +kernel
theorem dX9_judgeAt_5 : decode cX9_judgeAt 5 = .ok (.iadd, 1) := by decide +kernel
theorem dX9_judgeAt_6 : decode cX9_judgeAt 6 = .ok (.istore 5, 2) := by decide +kernel
theorem dX9_judgeAt_8 : decode cX9_judgeAt 8 = .ok (.aload_n 0, 1) := by decide +kernel
theorem dX9_judgeAt_9 : decode cX9_judgeAt 9 = .ok (.getfield 15, 3) := by decide +kernel
theorem dX9_judgeAt_12 : decode cX9_judgeAt 12 = .ok (.iload 5, 2) := by decide +kernel
theorem dX9_judgeAt_14 : decode cX9_judgeAt 14 = .ok (.iaload, 1) := by decide +kernel
theorem dX9_judgeAt_15 : decode cX9_judgeAt 15 = .ok (.aload_n 0, 1) := by decide +kernel
theorem dX9_judgeAt_16 : decode cX9_judgeAt 16 = .ok (.getfield 18, 3) := by decide +kernel
theorem dX9_judgeAt_19 : decode cX9_judgeAt 19 = .ok (.iload 5, 2) := by decide +kernel
theorem dX9_judgeAt_21 : decode cX9_judgeAt 21 = .ok (.iaload, 1) := by decide +kernel
theorem dX9_judgeAt_22 : decode cX9_judgeAt 22 = .ok (.ior, 1) := by decide +kernel
theorem dX9_judgeAt_23 : decode cX9_judgeAt 23 = .ok (.ifCond .eq 23, 3) := by decide +kernel
theorem dX9_judgeAt_26 : decode cX9_judgeAt 26 = .ok (.aload_n 0, 1) := by decide +kernel
theorem dX9_judgeAt_27 : decode cX9_judgeAt 27 = .ok (.getfield 15, 3) := by decide +kernel
theorem dX9_judgeAt_30 : decode cX9_judgeAt 30 = .ok (.iload 5, 2) := by decide +kernel
theorem dX9_judgeAt_32 : decode cX9_judgeAt 32 = .ok (.iaload, 1) := by decide +kernel
theorem dX9_judgeAt_33 : decode cX9_judgeAt 33 = .ok (.iconst 1, 1) := by decide +kernel
theorem dX9_judgeAt_34 : decode cX9_judgeAt 34 = .ok (.iload_n 3, 1) := by decide +kernel
theorem dX9_judgeAt_35 : decode cX9_judgeAt 35 = .ok (.ishl, 1) := by decide +kernel
theorem dX9_judgeAt_36 : decode cX9_judgeAt 36 = .ok (.iconst (-1), 1) := by decide +kernel
theorem dX9_judgeAt_37 : decode cX9_judgeAt 37 = .ok (.ixor, 1) := by decide +kernel
theorem dX9_judgeAt_38 : decode cX9_judgeAt 38 = .ok (.iand, 1) := by decide +kernel
theorem dX9_judgeAt_39 : decode cX9_judgeAt 39 = .ok (.ifCond .ne 7, 3) := by decide +kernel
theorem dX9_judgeAt_42 : decode cX9_judgeAt 42 = .ok (.iconst 1, 1) := by decide +kernel
theorem dX9_judgeAt_43 : decode cX9_judgeAt 43 = .ok (.goto 4, 3) := by decide +kernel
theorem dX9_judgeAt_46 : decode cX9_judgeAt 46 = .ok (.iconst 0, 1) := by decide +kernel
theorem dX9_judgeAt_47 : decode cX9_judgeAt 47 = .ok (.istore 6, 2) := by decide +kernel
theorem dX9_judgeAt_49 : decode cX9_judgeAt 49 = .ok (.aload_n 0, 1) := by decide +kernel
theorem dX9_judgeAt_50 : decode cX9_judgeAt 50 = .ok (.getfield 15, 3) := by decide +kernel
theorem dX9_judgeAt_53 : decode cX9_judgeAt 53 = .ok (.iload 5, 2) := by decide +kernel
theorem dX9_judgeAt_55 : decode cX9_judgeAt 55 = .ok (.iaload, 1) := by decide +kernel
theorem dX9_judgeAt_56 : decode cX9_judgeAt 56 = .ok (.iload_n 3, 1) := by decide +kernel
theorem dX9_judgeAt_57 : decode cX9_judgeAt 57 = .ok (.invokestatic 52, 3) := by decide +kernel
theorem dX9_judgeAt_60 : decode cX9_judgeAt 60 = .ok (.ifCond .eq 7, 3) := by decide +kernel
theorem dX9_judgeAt_63 : decode cX9_judgeAt 63 = .ok (.iload_n 1, 1) := by decide +kernel
theorem dX9_judgeAt_64 : decode cX9_judgeAt 64 = .ok (.goto 6, 3) := by decide +kernel
theorem dX9_judgeAt_67 : decode cX9_judgeAt 67 = .ok (.sipush 1000, 3) := by decide +kernel
theorem dX9_judgeAt_70 : decode cX9_judgeAt 70 = .ok (.istore 7, 2) := by decide +kernel
theorem dX9_judgeAt_72 : decode cX9_judgeAt 72 = .ok (.iconst 0, 1) := by decide +kernel
theorem dX9_judgeAt_73 : decode cX9_judgeAt 73 = .ok (.istore 8, 2) := by decide +kernel
theorem dX9_judgeAt_75 : decode cX9_judgeAt 75 = .ok (.iload 8, 2) := by decide +kernel
theorem dX9_judgeAt_77 : decode cX9_judgeAt 77 = .ok (.bipush 8, 2) := by decide +kernel
theorem dX9_judgeAt_79 : decode cX9_judgeAt 79 = .ok (.if_icmp .ge 104, 3) := by decide +kernel
theorem dX9_judgeAt_82 : decode cX9_judgeAt 82 = .ok (.aload_n 0, 1) := by decide +kernel
theorem dX9_judgeAt_83 : decode cX9_judgeAt 83 = .ok (.getfield 18, 3) := by decide +kernel
theorem dX9_judgeAt_86 : decode cX9_judgeAt 86 = .ok (.iload 5, 2) := by decide +kernel
theorem dX9_judgeAt_88 : decode cX9_judgeAt 88 = .ok (.iaload, 1) := by decide +kernel
theorem dX9_judgeAt_89 : decode cX9_judgeAt 89 = .ok (.iload 8, 2) := by decide +kernel
theorem dX9_judgeAt_91 : decode cX9_judgeAt 91 = .ok (.invokestatic 52, 3) := by decide +kernel
theorem dX9_judgeAt_94 : decode cX9_judgeAt 94 = .ok (.ifCond .eq 83, 3) := by decide +kernel
theorem dX9_judgeAt_97 : decode cX9_judgeAt 97 = .ok (.iload_n 1, 1) := by decide +kernel
theorem dX9_judgeAt_98 : decode cX9_judgeAt 98 = .ok (.aload 4, 2) := by decide +kernel
theorem dX9_judgeAt_100 : decode cX9_judgeAt 100 = .ok (.iload_n 2, 1) := by decide +kernel
theorem dX9_judgeAt_101 : decode cX9_judgeAt 101 = .ok (.bipush 8, 2) := by decide +kernel
theorem dX9_judgeAt_103 : decode cX9_judgeAt 103 = .ok (.imul, 1) := by decide +kernel
theorem dX9_judgeAt_104 : decode cX9_judgeAt 104 = .ok (.iload 8, 2) := by decide +kernel
theorem dX9_judgeAt_106 : decode cX9_judgeAt 106 = .ok (.iadd, 1) := by decide +kernel
theorem dX9_judgeAt_107 : decode cX9_judgeAt 107 = .ok (.iaload, 1) := by decide +kernel
theorem dX9_judgeAt_108 : decode cX9_judgeAt 108 = .ok (.iadd, 1) := by decide +kernel
theorem dX9_judgeAt_109 : decode cX9_judgeAt 109 = .ok (.istore 9, 2) := by decide +kernel
theorem dX9_judgeAt_111 : decode cX9_judgeAt 111 = .ok (.iload 6, 2) := by decide +kernel
theorem dX9_judgeAt_113 : decode cX9_judgeAt 113 = .ok (.ifCond .eq 29, 3) := by decide +kernel
theorem dX9_judgeAt_116 : decode cX9_judgeAt 116 = .ok (.iload 9, 2) := by decide +kernel
theorem dX9_judgeAt_118 : decode cX9_judgeAt 118 = .ok (.bipush 61, 2) := by decide +kernel
theorem dX9_judgeAt_120 : decode cX9_judgeAt 120 = .ok (.if_icmp .ge 22, 3) := by decide +kernel
theorem dX9_judgeAt_123 : decode cX9_judgeAt 123 = .ok (.aload_n 0, 1) := by decide +kernel
theorem dX9_judgeAt_124 : decode cX9_judgeAt 124 = .ok (.getfield 21, 3) := by decide +kernel
theorem dX9_judgeAt_127 : decode cX9_judgeAt 127 = .ok (.iload 9, 2) := by decide +kernel
theorem dX9_judgeAt_129 : decode cX9_judgeAt 129 = .ok (.iaload, 1) := by decide +kernel
theorem dX9_judgeAt_130 : decode cX9_judgeAt 130 = .ok (.iload 8, 2) := by decide +kernel
theorem dX9_judgeAt_132 : decode cX9_judgeAt 132 = .ok (.invokestatic 52, 3) := by decide +kernel
theorem dX9_judgeAt_135 : decode cX9_judgeAt 135 = .ok (.ifCond .eq 7, 3) := by decide +kernel
theorem dX9_judgeAt_138 : decode cX9_judgeAt 138 = .ok (.iconst 1, 1) := by decide +kernel
theorem dX9_judgeAt_139 : decode cX9_judgeAt 139 = .ok (.goto 4, 3) := by decide +kernel
theorem dX9_judgeAt_142 : decode cX9_judgeAt 142 = .ok (.iconst 0, 1) := by decide +kernel
theorem dX9_judgeAt_143 : decode cX9_judgeAt 143 = .ok (.istore 6, 2) := by decide +kernel
theorem dX9_judgeAt_145 : decode cX9_judgeAt 145 = .ok (.iload 9, 2) := by decide +kernel
theorem dX9_judgeAt_147 : decode cX9_judgeAt 147 = .ok (.bipush 61, 2) := by decide +kernel
theorem dX9_judgeAt_149 : decode cX9_judgeAt 149 = .ok (.if_icmp .ge 24, 3) := by decide +kernel
theorem dX9_judgeAt_152 : decode cX9_judgeAt 152 = .ok (.iload 7, 2) := by decide +kernel
theorem dX9_judgeAt_154 : decode cX9_judgeAt 154 = .ok (.aload_n 0, 1) := by decide +kernel
theorem dX9_judgeAt_155 : decode cX9_judgeAt 155 = .ok (.getfield 24, 3) := by decide +kernel
theorem dX9_judgeAt_158 : decode cX9_judgeAt 158 = .ok (.iload 9, 2) := by decide +kernel
theorem dX9_judgeAt_160 : decode cX9_judgeAt 160 = .ok (.bipush 8, 2) := by decide +kernel
theorem dX9_judgeAt_162 : decode cX9_judgeAt 162 = .ok (.imul, 1) := by decide +kernel
theorem dX9_judgeAt_163 : decode cX9_judgeAt 163 = .ok (.iload 8, 2) := by decide +kernel
theorem dX9_judgeAt_165 : decode cX9_judgeAt 165 = .ok (.iadd, 1) := by decide +kernel
theorem dX9_judgeAt_166 : decode cX9_judgeAt 166 = .ok (.iaload, 1) := by decide +kernel
theorem dX9_judgeAt_167 : decode cX9_judgeAt 167 = .ok (.invokestatic 46, 3) := by decide +kernel
theorem dX9_judgeAt_170 : decode cX9_judgeAt 170 = .ok (.goto 5, 3) := by decide +kernel
theorem dX9_judgeAt_173 : decode cX9_judgeAt 173 = .ok (.iload 7, 2) := by decide +kernel
theorem dX9_judgeAt_175 : decode cX9_judgeAt 175 = .ok (.istore 7, 2) := by decide +kernel
theorem dX9_judgeAt_177 : decode cX9_judgeAt 177 = .ok (.iinc 8 1, 3) := by decide +kernel
theorem dX9_judgeAt_180 : decode cX9_judgeAt 180 = .ok (.goto (-105), 3) := by decide +kernel
theorem dX9_judgeAt_183 : decode cX9_judgeAt 183 = .ok (.aload_n 0, 1) := by decide +kernel
theorem dX9_judgeAt_184 : decode cX9_judgeAt 184 = .ok (.getfield 24, 3) := by decide +kernel
theorem dX9_judgeAt_187 : decode cX9_judgeAt 187 = .ok (.iload 5, 2) := by decide +kernel
theorem dX9_judgeAt_189 : decode cX9_judgeAt 189 = .ok (.iload 7, 2) := by decide +kernel
theorem dX9_judgeAt_191 : decode cX9_judgeAt 191 = .ok (.iastore, 1) := by decide +kernel
theorem dX9_judgeAt_192 : decode cX9_judgeAt 192 = .ok (.aload_n 0, 1) := by decide +kernel
theorem dX9_judgeAt_193 : decode cX9_judgeAt 193 = .ok (.getfield 21, 3) := by decide +kernel
theorem dX9_judgeAt_196 : decode cX9_judgeAt 196 = .ok (.iload_n 1, 1) := by decide +kernel
theorem dX9_judgeAt_197 : decode cX9_judgeAt 197 = .ok (.dup2, 1) := by decide +kernel
theorem dX9_judgeAt_198 : decode cX9_judgeAt 198 = .ok (.iaload, 1) := by decide +kernel
theorem dX9_judgeAt_199 : decode cX9_judgeAt 199 = .ok (.iload 6, 2) := by decide +kernel
theorem dX9_judgeAt_201 : decode cX9_judgeAt 201 = .ok (.ifCond .eq 9, 3) := by decide +kernel
theorem dX9_judgeAt_204 : decode cX9_judgeAt 204 = .ok (.iconst 1, 1) := by decide +kernel
theorem dX9_judgeAt_205 : decode cX9_judgeAt 205 = .ok (.iload_n 2, 1) := by decide +kernel
theorem dX9_judgeAt_206 : decode cX9_judgeAt 206 = .ok (.ishl, 1) := by decide +kernel
theorem dX9_judgeAt_207 : decode cX9_judgeAt 207 = .ok (.goto 4, 3) := by decide +kernel
theorem dX9_judgeAt_210 : decode cX9_judgeAt 210 = .ok (.iconst 0, 1) := by decide +kernel
theorem dX9_judgeAt_211 : decode cX9_judgeAt 211 = .ok (.ior, 1) := by decide +kernel
theorem dX9_judgeAt_212 : decode cX9_judgeAt 212 = .ok (.iastore, 1) := by decide +kernel
theorem dX9_judgeAt_213 : decode cX9_judgeAt 213 = .ok (.return_, 1) := by decide +kernel
theorem dX9_sureFrom_0 : decode cX9_sureFrom 0 = .ok (.aload_n 0, 1) := by decide +kernel
theorem dX9_sureFrom_1 : decode cX9_sureFrom 1 = .ok (.getfield 21, 3) := by decide +kernel
theorem dX9_sureFrom_4 : decode cX9_sureFrom 4 = .ok (.iconst 0, 1) := by decide +kernel
theorem dX9_sureFrom_5 : decode cX9_sureFrom 5 = .ok (.iaload, 1) := by decide +kernel
theorem dX9_sureFrom_6 : decode cX9_sureFrom 6 = .ok (.iload_n 1, 1) := by decide +kernel
theorem dX9_sureFrom_7 : decode cX9_sureFrom 7 = .ok (.invokestatic 52, 3) := by decide +kernel
theorem dX9_sureFrom_10 : decode cX9_sureFrom 10 = .ok (.ifCond .eq 7, 3) := by decide +kernel
theorem dX9_sureFrom_13 : decode cX9_sureFrom 13 = .ok (.iconst 1, 1) := by decide +kernel
theorem dX9_sureFrom_14 : decode cX9_sureFrom 14 = .ok (.goto 4, 3) := by decide +kernel
theorem dX9_sureFrom_17 : decode cX9_sureFrom 17 = .ok (.iconst 0, 1) := by decide +kernel
theorem dX9_sureFrom_18 : decode cX9_sureFrom 18 = .ok (.ireturn, 1) := by decide +kernel
theorem dX9_soonFrom_0 : decode cX9_soonFrom 0 = .ok (.aload_n 0, 1) := by decide +kernel
theorem dX9_soonFrom_1 : decode cX9_soonFrom 1 = .ok (.getfield 24, 3) := by decide +kernel
theorem dX9_soonFrom_4 : decode cX9_soonFrom 4 = .ok (.iload_n 1, 1) := by decide +kernel
theorem dX9_soonFrom_5 : decode cX9_soonFrom 5 = .ok (.iaload, 1) := by decide +kernel
theorem dX9_soonFrom_6 : decode cX9_soonFrom 6 = .ok (.sipush 1000, 3) := by decide +kernel
theorem dX9_soonFrom_9 : decode cX9_soonFrom 9 = .ok (.if_icmp .ne 8, 3) := by decide +kernel
theorem dX9_soonFrom_12 : decode cX9_soonFrom 12 = .ok (.bipush (-2), 2) := by decide +kernel
theorem dX9_soonFrom_14 : decode cX9_soonFrom 14 = .ok (.goto 9, 3) := by decide +kernel
theorem dX9_soonFrom_17 : decode cX9_soonFrom 17 = .ok (.aload_n 0, 1) := by decide +kernel
theorem dX9_soonFrom_18 : decode cX9_soonFrom 18 = .ok (.getfield 24, 3) := by decide +kernel
theorem dX9_soonFrom_21 : decode cX9_soonFrom 21 = .ok (.iload_n 1, 1) := by decide +kernel
theorem dX9_soonFrom_22 : decode cX9_soonFrom 22 = .ok (.iaload, 1) := by decide +kernel
theorem dX9_soonFrom_23 : decode cX9_soonFrom 23 = .ok (.ireturn, 1) := by decide +kernel
theorem dX10_init_0 : decode cX10_init 0 = .ok (.aload_n 0, 1) := by decide +kernel
theorem dX10_init_1 : decode cX10_init 1 = .ok (.invokespecial 3, 3) := by decide +kernel
theorem dX10_init_4 : decode cX10_init 4 = .ok (.aload_n 0, 1) := by decide +kernel
theorem dX10_init_5 : decode cX10_init 5 = .ok (.bipush 64, 2) := by decide +kernel
theorem dX10_init_7 : decode cX10_init 7 = .ok (.newarray .int, 2) := by decide +kernel
theorem dX10_init_9 : decode cX10_init 9 = .ok (.putfield 9, 3) := by decide +kernel
theorem dX10_init_12 : decode cX10_init 12 = .ok (.aload_n 0, 1) := by decide +kernel
theorem dX10_init_13 : decode cX10_init 13 = .ok (.bipush 64, 2) := by decide +kernel
theorem dX10_init_15 : decode cX10_init 15 = .ok (.newarray .int, 2) := by decide +kernel
theorem dX10_init_17 : decode cX10_init 17 = .ok (.putfield 15, 3) := by decide +kernel
theorem dX10_init_20 : decode cX10_init 20 = .ok (.aload_n 0, 1) := by decide +kernel
theorem dX10_init_21 : decode cX10_init 21 = .ok (.getfield 9, 3) := by decide +kernel
theorem dX10_init_24 : decode cX10_init 24 = .ok (.sipush 1000, 3) := by decide +kernel
theorem dX10_init_27 : decode cX10_init 27 = .ok (.invokestatic 18, 3) := by decide +kernel
theorem dX10_init_30 : decode cX10_init 30 = .ok (.aload_n 0, 1) := by decide +kernel
theorem dX10_init_31 : decode cX10_init 31 = .ok (.getfield 15, 3) := by decide +kernel
theorem dX10_init_34 : decode cX10_init 34 = .ok (.iconst (-1), 1) := by decide +kernel
theorem dX10_init_35 : decode cX10_init 35 = .ok (.invokestatic 18, 3) := by decide +kernel
theorem dX10_init_38 : decode cX10_init 38 = .ok (.iconst 0, 1) := by decide +kernel
theorem dX10_init_39 : decode cX10_init 39 = .ok (.istore_n 1, 1) := by decide +kernel
theorem dX10_init_40 : decode cX10_init 40 = .ok (.iload_n 1, 1) := by decide +kernel
theorem dX10_init_41 : decode cX10_init 41 = .ok (.bipush 8, 2) := by decide +kernel
theorem dX10_init_43 : decode cX10_init 43 = .ok (.if_icmp .ge 21, 3) := by decide +kernel
theorem dX10_init_46 : decode cX10_init 46 = .ok (.aload_n 0, 1) := by decide +kernel
theorem dX10_init_47 : decode cX10_init 47 = .ok (.getfield 9, 3) := by decide +kernel
theorem dX10_init_50 : decode cX10_init 50 = .ok (.iload_n 1, 1) := by decide +kernel
theorem dX10_init_51 : decode cX10_init 51 = .ok (.bipush 8, 2) := by decide +kernel
theorem dX10_init_53 : decode cX10_init 53 = .ok (.imul, 1) := by decide +kernel
theorem dX10_init_54 : decode cX10_init 54 = .ok (.iload_n 1, 1) := by decide +kernel
theorem dX10_init_55 : decode cX10_init 55 = .ok (.iadd, 1) := by decide +kernel
theorem dX10_init_56 : decode cX10_init 56 = .ok (.iconst 0, 1) := by decide +kernel
theorem dX10_init_57 : decode cX10_init 57 = .ok (.iastore, 1) := by decide +kernel
theorem dX10_init_58 : decode cX10_init 58 = .ok (.iinc 1 1, 3) := by decide +kernel
theorem dX10_init_61 : decode cX10_init 61 = .ok (.goto (-21), 3) := by decide +kernel
theorem dX10_init_64 : decode cX10_init 64 = .ok (.return_, 1) := by decide +kernel
theorem dX10_measure_0 : decode cX10_measure 0 = .ok (.iconst 0, 1) := by decide +kernel
theorem dX10_measure_1 : decode cX10_measure 1 = .ok (.istore_n 2, 1) := by decide +kernel
theorem dX10_measure_2 : decode cX10_measure 2 = .ok (.iload_n 2, 1) := by decide +kernel
theorem dX10_measure_3 : decode cX10_measure 3 = .ok (.bipush 64, 2) := by decide +kernel
theorem dX10_measure_5 : decode cX10_measure 5 = .ok (.if_icmp .ge 30, 3) := by decide +kernel
theorem dX10_measure_8 : decode cX10_measure 8 = .ok (.aload_n 0, 1) := by decide +kernel
theorem dX10_measure_9 : decode cX10_measure 9 = .ok (.getfield 9, 3) := by decide +kernel
theorem dX10_measure_12 : decode cX10_measure 12 = .ok (.iload_n 2, 1) := by decide +kernel
theorem dX10_measure_13 : decode cX10_measure 13 = .ok (.aload_n 1, 1) := by decide +kernel
theorem dX10_measure_14 : decode cX10_measure 14 = .ok (.iload_n 2, 1) := by decide +kernel
theorem dX10_measure_15 : decode cX10_measure 15 = .ok (.iaload, 1) := by decide +kernel
theorem dX10_measure_16 : decode cX10_measure 16 = .ok (.ifCond .ne 9, 3) := by decide +kernel
theorem dX10_measure_19 : decode cX10_measure 19 = .ok (.sipush 1000, 3) := by decide +kernel
theorem dX10_measure_22 : decode cX10_measure 22 = .ok (.goto 6, 3) := by decide +kernel
theorem dX10_measure_25 : decode cX10_measure 25 = .ok (.aload_n 1, 1) := by decide +kernel
theorem dX10_measure_26 : decode cX10_measure 26 = .ok (.iload_n 2, 1) := by decide +kernel
theorem dX10_measure_27 : decode cX10_measure 27 = .ok (.iaload, 1) := by decide +kernel
theorem dX10_measure_28 : decode cX10_measure 28 = .ok (.iastore, 1) := by decide +kernel
theorem dX10_measure_29 : decode cX10_measure 29 = .ok (.iinc 2 1, 3) := by decide +kernel
theorem dX10_measure_32 : decode cX10_measure 32 = .ok (.goto (-30), 3) := by decide +kernel
theorem dX10_measure_35 : decode cX10_measure 35 = .ok (.iconst 0, 1) := by decide +kernel
theorem dX10_measure_36 : decode cX10_measure 36 = .ok (.istore_n 2, 1) := by decide +kernel
theorem dX10_measure_37 : decode cX10_measure 37 = .ok (.iload_n 2, 1) := by decide +kernel
theorem dX10_measure_38 : decode cX10_measure 38 = .ok (.bipush 8, 2) := by decide +kernel
theorem dX10_measure_40 : decode cX10_measure 40 = .ok (.if_icmp .ge 21, 3) := by decide +kernel
theorem dX10_measure_43 : decode cX10_measure 43 = .ok (.aload_n 0, 1) := by decide +kernel
theorem dX10_measure_44 : decode cX10_measure 44 = .ok (.getfield 9, 3) := by decide +kernel
theorem dX10_measure_47 : decode cX10_measure 47 = .ok (.iload_n 2, 1) := by decide +kernel
theorem dX10_measure_48 : decode cX10_measure 48 = .ok (.bipush 8, 2) := by decide +kernel
theorem dX10_measure_50 : decode cX10_measure 50 = .ok (.imul, 1) := by decide +kernel
theorem dX10_measure_51 : decode cX10_measure 51 = .ok (.iload_n 2, 1) := by decide +kernel
theorem dX10_measure_52 : decode cX10_measure 52 = .ok (.iadd, 1) := by decide +kernel
theorem dX10_measure_53 : decode cX10_measure 53 = .ok (.iconst 0, 1) := by decide +kernel
theorem dX10_measure_54 : decode cX10_measure 54 = .ok (.iastore, 1) := by decide +kernel
theorem dX10_measure_55 : decode cX10_measure 55 = .ok (.iinc 2 1, 3) := by decide +kernel
theorem dX10_measure_58 : decode cX10_measure 58 = .ok (.goto (-21), 3) := by decide +kernel
theorem dX10_measure_61 : decode cX10_measure 61 = .ok (.iconst 0, 1) := by decide +kernel
theorem dX10_measure_62 : decode cX10_measure 62 = .ok (.istore_n 2, 1) := by decide +kernel
theorem dX10_measure_63 : decode cX10_measure 63 = .ok (.iload_n 2, 1) := by decide +kernel
theorem dX10_measure_64 : decode cX10_measure 64 = .ok (.bipush 8, 2) := by decide +kernel
theorem dX10_measure_66 : decode cX10_measure 66 = .ok (.if_icmp .ge 93, 3) := by decide +kernel
theorem dX10_measure_69 : decode cX10_measure 69 = .ok (.iconst 0, 1) := by decide +kernel
theorem dX10_measure_70 : decode cX10_measure 70 = .ok (.istore_n 3, 1) := by decide +kernel
theorem dX10_measure_71 : decode cX10_measure 71 = .ok (.iload_n 3, 1) := by decide +kernel
theorem dX10_measure_72 : decode cX10_measure 72 = .ok (.bipush 8, 2) := by decide +kernel
theorem dX10_measure_74 : decode cX10_measure 74 = .ok (.if_icmp .ge 79, 3) := by decide +kernel
theorem dX10_measure_77 : decode cX10_measure 77 = .ok (.iconst 0, 1) := by decide +kernel
theorem dX10_measure_78 : decode cX10_measure 78 = .ok (.istore 4, 2) := by decide +kernel
theorem dX10_measure_80 : decode cX10_measure 80 = .ok (.iload 4, 2) := by decide +kernel
theorem dX10_measure_82 : decode cX10_measure 82 = .ok (.bipush 8, 2) := by decide +kernel
theorem dX10_measure_84 : decode cX10_measure 84 = .ok (.if_icmp .ge 63, 3) := by decide +kernel
theorem dX10_measure_87 : decode cX10_measure 87 = .ok (.iload_n 3, 1) := by decide +kernel
theorem dX10_measure_88 : decode cX10_measure 88 = .ok (.bipush 8, 2) := by decide +kernel
theorem dX10_measure_90 : decode cX10_measure 90 = .ok (.imul, 1) := by decide +kernel
theorem dX10_measure_91 : decode cX10_measure 91 = .ok (.iload 4, 2) := by decide +kernel
theorem dX10_measure_93 : decode cX10_measure 93 = .ok (.iadd, 1) := by decide +kernel
theorem dX10_measure_94 : decode cX10_measure 94 = .ok (.istore 5, 2) := by decide +kernel
theorem dX10_measure_96 : decode cX10_measure 96 = .ok (.aload_n 0, 1) := by decide +kernel
theorem dX10_measure_97 : decode cX10_measure 97 = .ok (.getfield 9, 3) := by decide +kernel
theorem dX10_measure_100 : decode cX10_measure 100 = .ok (.iload_n 3, 1) := by decide +kernel
theorem dX10_measure_101 : decode cX10_measure 101 = .ok (.bipush 8, 2) := by decide +kernel
theorem dX10_measure_103 : decode cX10_measure 103 = .ok (.imul, 1) := by decide +kernel
theorem dX10_measure_104 : decode cX10_measure 104 = .ok (.iload_n 2, 1) := by decide +kernel
theorem dX10_measure_105 : decode cX10_measure 105 = .ok (.iadd, 1) := by decide +kernel
theorem dX10_measure_106 : decode cX10_measure 106 = .ok (.iaload, 1) := by decide +kernel
theorem dX10_measure_107 : decode cX10_measure 107 = .ok (.aload_n 0, 1) := by decide +kernel
theorem dX10_measure_108 : decode cX10_measure 108 = .ok (.getfield 9, 3) := by decide +kernel
theorem dX10_measure_111 : decode cX10_measure 111 = .ok (.iload_n 2, 1) := by decide +kernel
theorem dX10_measure_112 : decode cX10_measure 112 = .ok (.bipush 8, 2) := by decide +kernel
theorem dX10_measure_114 : decode cX10_measure 114 = .ok (.imul, 1) := by decide +kernel
theorem dX10_measure_115 : decode cX10_measure 115 = .ok (.iload 4, 2) := by decide +kernel
theorem dX10_measure_117 : decode cX10_measure 117 = .ok (.iadd, 1) := by decide +kernel
theorem dX10_measure_118 : decode cX10_measure 118 = .ok (.iaload, 1) := by decide +kernel
theorem dX10_measure_119 : decode cX10_measure 119 = .ok (.iadd, 1) := by decide +kernel
theorem dX10_measure_120 : decode cX10_measure 120 = .ok (.istore 6, 2) := by decide +kernel
theorem dX10_measure_122 : decode cX10_measure 122 = .ok (.aload_n 0, 1) := by decide +kernel
theorem dX10_measure_123 : decode cX10_measure 123 = .ok (.getfield 9, 3) := by decide +kernel
theorem dX10_measure_126 : decode cX10_measure 126 = .ok (.iload 5, 2) := by decide +kernel
theorem dX10_measure_128 : decode cX10_measure 128 = .ok (.aload_n 0, 1) := by decide +kernel
theorem dX10_measure_129 : decode cX10_measure 129 = .ok (.getfield 9, 3) := by decide +kernel
theorem dX10_measure_132 : decode cX10_measure 132 = .ok (.iload 5, 2) := by decide +kernel
theorem dX10_measure_134 : decode cX10_measure 134 = .ok (.iaload, 1) := by decide +kernel
theorem dX10_measure_135 : decode cX10_measure 135 = .ok (.iload 6, 2) := by decide +kernel
theorem dX10_measure_137 : decode cX10_measure 137 = .ok (.invokestatic 24, 3) := by decide +kernel
theorem dX10_measure_140 : decode cX10_measure 140 = .ok (.iastore, 1) := by decide +kernel
theorem dX10_measure_141 : decode cX10_measure 141 = .ok (.iinc 4 1, 3) := by decide +kernel
theorem dX10_measure_144 : decode cX10_measure 144 = .ok (.goto (-64), 3) := by decide +kernel
theorem dX10_measure_147 : decode cX10_measure 147 = .ok (.iinc 3 1, 3) := by decide +kernel
theorem dX10_measure_150 : decode cX10_measure 150 = .ok (.goto (-79), 3) := by decide +kernel
theorem dX10_measure_153 : decode cX10_measure 153 = .ok (.iinc 2 1, 3) := by decide +kernel
theorem dX10_measure_156 : decode cX10_measure 156 = .ok (.goto (-93), 3) := by decide +kernel
theorem dX10_measure_159 : decode cX10_measure 159 = .ok (.iconst 0, 1) := by decide +kernel
theorem dX10_measure_160 : decode cX10_measure 160 = .ok (.istore_n 2, 1) := by decide +kernel
theorem dX10_measure_161 : decode cX10_measure 161 = .ok (.iload_n 2, 1) := by decide +kernel
theorem dX10_measure_162 : decode cX10_measure 162 = .ok (.bipush 64, 2) := by decide +kernel
theorem dX10_measure_164 : decode cX10_measure 164 = .ok (.if_icmp .ge 28, 3) := by decide +kernel
theorem dX10_measure_167 : decode cX10_measure 167 = .ok (.aload_n 0, 1) := by decide +kernel
theorem dX10_measure_168 : decode cX10_measure 168 = .ok (.getfield 15, 3) := by decide +kernel
theorem dX10_measure_171 : decode cX10_measure 171 = .ok (.iload_n 2, 1) := by decide +kernel
theorem dX10_measure_172 : decode cX10_measure 172 = .ok (.aload_n 0, 1) := by decide +kernel
theorem dX10_measure_173 : decode cX10_measure 173 = .ok (.iload_n 2, 1) := by decide +kernel
theorem dX10_measure_174 : decode cX10_measure 174 = .ok (.bipush 8, 2) := by decide +kernel
theorem dX10_measure_176 : decode cX10_measure 176 = .ok (.idiv, 1) := by decide +kernel
theorem dX10_measure_177 : decode cX10_measure 177 = .ok (.iload_n 2, 1) := by decide +kernel
theorem dX10_measure_178 : decode cX10_measure 178 = .ok (.bipush 8, 2) := by decide +kernel
theorem dX10_measure_180 : decode cX10_measure 180 = .ok (.irem, 1) := by decide +kernel
theorem dX10_measure_181 : decode cX10_measure 181 = .ok (.aload_n 1, 1) := by decide +kernel
theorem dX10_measure_182 : decode cX10_measure 182 = .ok (.invokevirtual 30, 3) := by decide +kernel
theorem dX10_measure_185 : decode cX10_measure 185 = .ok (.iastore, 1) := by decide +kernel
theorem dX10_measure_186 : decode cX10_measure 186 = .ok (.iinc 2 1, 3) := by decide +kernel
theorem dX10_measure_189 : decode cX10_measure 189 = .ok (.goto (-28), 3) := by decide +kernel
theorem dX10_measure_192 : decode cX10_measure 192 = .ok (.return_, 1) := by decide +kernel
theorem dX10_nextOf_0 : decode cX10_nextOf 0 = .ok (.aload_n 0, 1) := by decide +kernel
theorem dX10_nextOf_1 : decode cX10_nextOf 1 = .ok (.getfield 9, 3) := by decide +kernel
theorem dX10_nextOf_4 : decode cX10_nextOf 4 = .ok (.iload_n 1, 1) := by decide +kernel
theorem dX10_nextOf_5 : decode cX10_nextOf 5 = .ok (.bipush 8, 2) := by decide +kernel
theorem dX10_nextOf_7 : decode cX10_nextOf 7 = .ok (.imul, 1) := by decide +kernel
theorem dX10_nextOf_8 : decode cX10_nextOf 8 = .ok (.iload_n 2, 1) := by decide +kernel
theorem dX10_nextOf_9 : decode cX10_nextOf 9 = .ok (.iadd, 1) := by decide +kernel
theorem dX10_nextOf_10 : decode cX10_nextOf 10 = .ok (.iaload, 1) := by decide +kernel
theorem dX10_nextOf_11 : decode cX10_nextOf 11 = .ok (.istore 4, 2) := by decide +kernel
theorem dX10_nextOf_13 : decode cX10_nextOf 13 = .ok (.iload_n 1, 1) := by decide +kernel
theorem dX10_nextOf_14 : decode cX10_nextOf 14 = .ok (.iload_n 2, 1) := by decide +kernel
theorem dX10_nextOf_15 : decode cX10_nextOf 15 = .ok (.if_icmp .eq 11, 3) := by decide +kernel
theorem dX10_nextOf_18 : decode cX10_nextOf 18 = .ok (.iload 4, 2) := by decide +kernel
theorem dX10_nextOf_20 : decode cX10_nextOf 20 = .ok (.sipush 1000, 3) := by decide +kernel
theorem dX10_nextOf_23 : decode cX10_nextOf 23 = .ok (.if_icmp .lt 5, 3) := by decide +kernel
theorem dX10_nextOf_26 : decode cX10_nextOf 26 = .ok (.iconst (-1), 1) := by decide +kernel
theorem dX10_nextOf_27 : decode cX10_nextOf 27 = .ok (.ireturn, 1) := by decide +kernel
theorem dX10_nextOf_28 : decode cX10_nextOf 28 = .ok (.iconst 0, 1) := by decide +kernel
theorem dX10_nextOf_29 : decode cX10_nextOf 29 = .ok (.istore 5, 2) := by decide +kernel
theorem dX10_nextOf_31 : decode cX10_nextOf 31 = .ok (.iload 5, 2) := by decide +kernel
theorem dX10_nextOf_33 : decode cX10_nextOf 33 = .ok (.bipush 8, 2) := by decide +kernel
theorem dX10_nextOf_35 : decode cX10_nextOf 35 = .ok (.if_icmp .ge 48, 3) := by decide +kernel
theorem dX10_nextOf_38 : decode cX10_nextOf 38 = .ok (.aload_n 3, 1) := by decide +kernel
theorem dX10_nextOf_39 : decode cX10_nextOf 39 = .ok (.iload_n 1, 1) := by decide +kernel
theorem dX10_nextOf_40 : decode cX10_nextOf 40 = .ok (.bipush 8, 2) := by decide +kernel
theorem dX10_nextOf_42 : decode cX10_nextOf 42 = .ok (.imul, 1) := by decide +kernel
theorem dX10_nextOf_43 : decode cX10_nextOf 43 = .ok (.iload 5, 2) := by decide +kernel
theorem dX10_nextOf_45 : decode cX10_nextOf 45 = .ok (.iadd, 1) := by decide +kernel
theorem dX10_nextOf_46 : decode cX10_nextOf 46 = .ok (.iaload, 1) := by decide +kernel
theorem dX10_nextOf_47 : decode cX10_nextOf 47 = .ok (.istore 6, 2) := by decide +kernel
theorem dX10_nextOf_49 : decode cX10_nextOf 49 = .ok (.iload 6, 2) := by decide +kernel
theorem dX10_nextOf_51 : decode cX10_nextOf 51 = .ok (.ifCond .eq 26, 3) := by decide +kernel
theorem dX10_nextOf_54 : decode cX10_nextOf 54 = .ok (.iload 6, 2) := by decide +kernel
theorem dX10_nextOf_56 : decode cX10_nextOf 56 = .ok (.aload_n 0, 1) := by decide +kernel
theorem dX10_nextOf_57 : decode cX10_nextOf 57 = .ok (.getfield 9, 3) := by decide +kernel
theorem dX10_nextOf_60 : decode cX10_nextOf 60 = .ok (.iload 5, 2) := by decide +kernel
theorem dX10_nextOf_62 : decode cX10_nextOf 62 = .ok (.bipush 8, 2) := by decide +kernel
theorem dX10_nextOf_64 : decode cX10_nextOf 64 = .ok (.imul, 1) := by decide +kernel
theorem dX10_nextOf_65 : decode cX10_nextOf 65 = .ok (.iload_n 2, 1) := by decide +kernel
theorem dX10_nextOf_66 : decode cX10_nextOf 66 = .ok (.iadd, 1) := by decide +kernel
theorem dX10_nextOf_67 : decode cX10_nextOf 67 = .ok (.iaload, 1) := by decide +kernel
theorem dX10_nextOf_68 : decode cX10_nextOf 68 = .ok (.iadd, 1) := by decide +kernel
theorem dX10_nextOf_69 : decode cX10_nextOf 69 = .ok (.iload 4, 2) := by decide +kernel
theorem dX10_nextOf_71 : decode cX10_nextOf 71 = .ok (.if_icmp .ne 6, 3) := by decide +kernel
theorem dX10_nextOf_74 : decode cX10_nextOf 74 = .ok (.iload 5, 2) := by decide +kernel
theorem dX10_nextOf_76 : decode cX10_nextOf 76 = .ok (.ireturn, 1) := by decide +kernel
theorem dX10_nextOf_77 : decode cX10_nextOf 77 = .ok (.iinc 5 1, 3) := by decide +kernel
theorem dX10_nextOf_80 : decode cX10_nextOf 80 = .ok (.goto (-49), 3) := by decide +kernel
theorem dX10_nextOf_83 : decode cX10_nextOf 83 = .ok (.iconst (-1), 1) := by decide +kernel
theorem dX10_nextOf_84 : decode cX10_nextOf 84 = .ok (.ireturn, 1) := by decide +kernel
theorem dJ6_bitCount_0f7a4_0 : decode cJ6_bitCount_0f7a4 0 = .ok (.iload_n 0, 1) := by decide +kernel
theorem dJ6_bitCount_0f7a4_1 : decode cJ6_bitCount_0f7a4 1 = .ok (.iload_n 0, 1) := by decide +kernel
theorem dJ6_bitCount_0f7a4_2 : decode cJ6_bitCount_0f7a4 2 = .ok (.iconst 1, 1) := by decide +kernel
theorem dJ6_bitCount_0f7a4_3 : decode cJ6_bitCount_0f7a4 3 = .ok (.iushr, 1) := by decide +kernel
theorem dJ6_bitCount_0f7a4_4 : decode cJ6_bitCount_0f7a4 4 = .ok (.ldc_w 265, 3) := by decide +kernel
theorem dJ6_bitCount_0f7a4_7 : decode cJ6_bitCount_0f7a4 7 = .ok (.iand, 1) := by decide +kernel
theorem dJ6_bitCount_0f7a4_8 : decode cJ6_bitCount_0f7a4 8 = .ok (.isub, 1) := by decide +kernel
theorem dJ6_bitCount_0f7a4_9 : decode cJ6_bitCount_0f7a4 9 = .ok (.istore_n 0, 1) := by decide +kernel
theorem dJ6_bitCount_0f7a4_10 : decode cJ6_bitCount_0f7a4 10 = .ok (.iload_n 0, 1) := by decide +kernel
theorem dJ6_bitCount_0f7a4_11 : decode cJ6_bitCount_0f7a4 11 = .ok (.ldc_w 266, 3) := by decide +kernel
theorem dJ6_bitCount_0f7a4_14 : decode cJ6_bitCount_0f7a4 14 = .ok (.iand, 1) := by decide +kernel
theorem dJ6_bitCount_0f7a4_15 : decode cJ6_bitCount_0f7a4 15 = .ok (.iload_n 0, 1) := by decide +kernel
theorem dJ6_bitCount_0f7a4_16 : decode cJ6_bitCount_0f7a4 16 = .ok (.iconst 2, 1) := by decide +kernel
theorem dJ6_bitCount_0f7a4_17 : decode cJ6_bitCount_0f7a4 17 = .ok (.iushr, 1) := by decide +kernel
theorem dJ6_bitCount_0f7a4_18 : decode cJ6_bitCount_0f7a4 18 = .ok (.ldc_w 266, 3) := by decide +kernel
theorem dJ6_bitCount_0f7a4_21 : decode cJ6_bitCount_0f7a4 21 = .ok (.iand, 1) := by decide +kernel
theorem dJ6_bitCount_0f7a4_22 : decode cJ6_bitCount_0f7a4 22 = .ok (.iadd, 1) := by decide +kernel
theorem dJ6_bitCount_0f7a4_23 : decode cJ6_bitCount_0f7a4 23 = .ok (.istore_n 0, 1) := by decide +kernel
theorem dJ6_bitCount_0f7a4_24 : decode cJ6_bitCount_0f7a4 24 = .ok (.iload_n 0, 1) := by decide +kernel
theorem dJ6_bitCount_0f7a4_25 : decode cJ6_bitCount_0f7a4 25 = .ok (.iload_n 0, 1) := by decide +kernel
theorem dJ6_bitCount_0f7a4_26 : decode cJ6_bitCount_0f7a4 26 = .ok (.iconst 4, 1) := by decide +kernel
theorem dJ6_bitCount_0f7a4_27 : decode cJ6_bitCount_0f7a4 27 = .ok (.iushr, 1) := by decide +kernel
theorem dJ6_bitCount_0f7a4_28 : decode cJ6_bitCount_0f7a4 28 = .ok (.iadd, 1) := by decide +kernel
theorem dJ6_bitCount_0f7a4_29 : decode cJ6_bitCount_0f7a4 29 = .ok (.ldc_w 267, 3) := by decide +kernel
theorem dJ6_bitCount_0f7a4_32 : decode cJ6_bitCount_0f7a4 32 = .ok (.iand, 1) := by decide +kernel
theorem dJ6_bitCount_0f7a4_33 : decode cJ6_bitCount_0f7a4 33 = .ok (.istore_n 0, 1) := by decide +kernel
theorem dJ6_bitCount_0f7a4_34 : decode cJ6_bitCount_0f7a4 34 = .ok (.iload_n 0, 1) := by decide +kernel
theorem dJ6_bitCount_0f7a4_35 : decode cJ6_bitCount_0f7a4 35 = .ok (.iload_n 0, 1) := by decide +kernel
theorem dJ6_bitCount_0f7a4_36 : decode cJ6_bitCount_0f7a4 36 = .ok (.bipush 8, 2) := by decide +kernel
theorem dJ6_bitCount_0f7a4_38 : decode cJ6_bitCount_0f7a4 38 = .ok (.iushr, 1) := by decide +kernel
theorem dJ6_bitCount_0f7a4_39 : decode cJ6_bitCount_0f7a4 39 = .ok (.iadd, 1) := by decide +kernel
theorem dJ6_bitCount_0f7a4_40 : decode cJ6_bitCount_0f7a4 40 = .ok (.istore_n 0, 1) := by decide +kernel
theorem dJ6_bitCount_0f7a4_41 : decode cJ6_bitCount_0f7a4 41 = .ok (.iload_n 0, 1) := by decide +kernel
theorem dJ6_bitCount_0f7a4_42 : decode cJ6_bitCount_0f7a4 42 = .ok (.iload_n 0, 1) := by decide +kernel
theorem dJ6_bitCount_0f7a4_43 : decode cJ6_bitCount_0f7a4 43 = .ok (.bipush 16, 2) := by decide +kernel
theorem dJ6_bitCount_0f7a4_45 : decode cJ6_bitCount_0f7a4 45 = .ok (.iushr, 1) := by decide +kernel
theorem dJ6_bitCount_0f7a4_46 : decode cJ6_bitCount_0f7a4 46 = .ok (.iadd, 1) := by decide +kernel
theorem dJ6_bitCount_0f7a4_47 : decode cJ6_bitCount_0f7a4 47 = .ok (.istore_n 0, 1) := by decide +kernel
theorem dJ6_bitCount_0f7a4_48 : decode cJ6_bitCount_0f7a4 48 = .ok (.iload_n 0, 1) := by decide +kernel
theorem dJ6_bitCount_0f7a4_49 : decode cJ6_bitCount_0f7a4 49 = .ok (.bipush 63, 2) := by decide +kernel
theorem dJ6_bitCount_0f7a4_51 : decode cJ6_bitCount_0f7a4 51 = .ok (.iand, 1) := by decide +kernel
theorem dJ6_bitCount_0f7a4_52 : decode cJ6_bitCount_0f7a4 52 = .ok (.ireturn, 1) := by decide +kernel
theorem dJ9_min_7cf53_0 : decode cJ9_min_7cf53 0 = .ok (.iload_n 0, 1) := by decide +kernel
theorem dJ9_min_7cf53_1 : decode cJ9_min_7cf53 1 = .ok (.iload_n 1, 1) := by decide +kernel
theorem dJ9_min_7cf53_2 : decode cJ9_min_7cf53 2 = .ok (.if_icmp .gt 7, 3) := by decide +kernel
theorem dJ9_min_7cf53_5 : decode cJ9_min_7cf53 5 = .ok (.iload_n 0, 1) := by decide +kernel
theorem dJ9_min_7cf53_6 : decode cJ9_min_7cf53 6 = .ok (.goto 4, 3) := by decide +kernel
theorem dJ9_min_7cf53_9 : decode cJ9_min_7cf53 9 = .ok (.iload_n 1, 1) := by decide +kernel
theorem dJ9_min_7cf53_10 : decode cJ9_min_7cf53 10 = .ok (.ireturn, 1) := by decide +kernel
theorem dJ7_fill_53178_0 : decode cJ7_fill_53178 0 = .ok (.iconst 0, 1) := by decide +kernel
theorem dJ7_fill_53178_1 : decode cJ7_fill_53178 1 = .ok (.istore_n 2, 1) := by decide +kernel
theorem dJ7_fill_53178_2 : decode cJ7_fill_53178 2 = .ok (.aload_n 0, 1) := by decide +kernel
theorem dJ7_fill_53178_3 : decode cJ7_fill_53178 3 = .ok (.arraylength, 1) := by decide +kernel
theorem dJ7_fill_53178_4 : decode cJ7_fill_53178 4 = .ok (.istore_n 3, 1) := by decide +kernel
theorem dJ7_fill_53178_5 : decode cJ7_fill_53178 5 = .ok (.iload_n 2, 1) := by decide +kernel
theorem dJ7_fill_53178_6 : decode cJ7_fill_53178 6 = .ok (.iload_n 3, 1) := by decide +kernel
theorem dJ7_fill_53178_7 : decode cJ7_fill_53178 7 = .ok (.if_icmp .ge 13, 3) := by decide +kernel
theorem dJ7_fill_53178_10 : decode cJ7_fill_53178 10 = .ok (.aload_n 0, 1) := by decide +kernel
theorem dJ7_fill_53178_11 : decode cJ7_fill_53178 11 = .ok (.iload_n 2, 1) := by decide +kernel
theorem dJ7_fill_53178_12 : decode cJ7_fill_53178 12 = .ok (.iload_n 1, 1) := by decide +kernel
theorem dJ7_fill_53178_13 : decode cJ7_fill_53178 13 = .ok (.iastore, 1) := by decide +kernel
theorem dJ7_fill_53178_14 : decode cJ7_fill_53178 14 = .ok (.iinc 2 1, 3) := by decide +kernel
theorem dJ7_fill_53178_17 : decode cJ7_fill_53178 17 = .ok (.goto (-12), 3) := by decide +kernel
theorem dJ7_fill_53178_20 : decode cJ7_fill_53178 20 = .ok (.return_, 1) := by decide +kernel
theorem dJ7_copyOf_59c91_0 : decode cJ7_copyOf_59c91 0 = .ok (.iload_n 1, 1) := by decide +kernel
theorem dJ7_copyOf_59c91_1 : decode cJ7_copyOf_59c91 1 = .ok (.aload_n 0, 1) := by decide +kernel
theorem dJ7_copyOf_59c91_2 : decode cJ7_copyOf_59c91 2 = .ok (.arraylength, 1) := by decide +kernel
theorem dJ7_copyOf_59c91_3 : decode cJ7_copyOf_59c91 3 = .ok (.if_icmp .ne 11, 3) := by decide +kernel
theorem dJ7_copyOf_59c91_6 : decode cJ7_copyOf_59c91 6 = .ok (.aload_n 0, 1) := by decide +kernel
theorem dJ7_copyOf_59c91_7 : decode cJ7_copyOf_59c91 7 = .ok (.invokevirtual 316, 3) := by decide +kernel
theorem dJ7_copyOf_59c91_10 : decode cJ7_copyOf_59c91 10 = .ok (.checkcast 317, 3) := by decide +kernel
theorem dJ7_copyOf_59c91_13 : decode cJ7_copyOf_59c91 13 = .ok (.areturn, 1) := by decide +kernel
theorem dJ7_copyOf_59c91_14 : decode cJ7_copyOf_59c91 14 = .ok (.iload_n 1, 1) := by decide +kernel
theorem dJ7_copyOf_59c91_15 : decode cJ7_copyOf_59c91 15 = .ok (.newarray .int, 2) := by decide +kernel
theorem dJ7_copyOf_59c91_17 : decode cJ7_copyOf_59c91 17 = .ok (.astore_n 2, 1) := by decide +kernel
theorem dJ7_copyOf_59c91_18 : decode cJ7_copyOf_59c91 18 = .ok (.aload_n 0, 1) := by decide +kernel
theorem dJ7_copyOf_59c91_19 : decode cJ7_copyOf_59c91 19 = .ok (.iconst 0, 1) := by decide +kernel
theorem dJ7_copyOf_59c91_20 : decode cJ7_copyOf_59c91 20 = .ok (.aload_n 2, 1) := by decide +kernel
theorem dJ7_copyOf_59c91_21 : decode cJ7_copyOf_59c91 21 = .ok (.iconst 0, 1) := by decide +kernel
theorem dJ7_copyOf_59c91_22 : decode cJ7_copyOf_59c91 22 = .ok (.aload_n 0, 1) := by decide +kernel
theorem dJ7_copyOf_59c91_23 : decode cJ7_copyOf_59c91 23 = .ok (.arraylength, 1) := by decide +kernel
theorem dJ7_copyOf_59c91_24 : decode cJ7_copyOf_59c91 24 = .ok (.iload_n 1, 1) := by decide +kernel
theorem dJ7_copyOf_59c91_25 : decode cJ7_copyOf_59c91 25 = .ok (.invokestatic 304, 3) := by decide +kernel
theorem dJ7_copyOf_59c91_28 : decode cJ7_copyOf_59c91 28 = .ok (.invokestatic 150, 3) := by decide +kernel
theorem dJ7_copyOf_59c91_31 : decode cJ7_copyOf_59c91 31 = .ok (.aload_n 2, 1) := by decide +kernel
theorem dJ7_copyOf_59c91_32 : decode cJ7_copyOf_59c91 32 = .ok (.areturn, 1) := by decide +kernel
